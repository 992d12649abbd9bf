/-! the law: what an event does -/
theorem mn_eq : ∀ m, m < 20 → ∀ x, x ≤ 20 → (mnI x = nI m ↔ x = m + 1) := by decide +kernel
theorem ar_p1 {x y : Nat} (h : y + 0 = x + 1) : y = x + 1 := by omega
theorem ar_p2 {x y : Nat} (h : y + 1 = x + 1) : y = x := by omega
theorem brd_put {σ : PS} {q m : Nat} (hq : q < 25) : brd (sS σ q (m + 1)).1 25 = if σ.1 q = 0 then brd σ.1 25 + 1 else brd σ.1 25 := by
  have a := brd_at (b := σ.1) (b' := (sS σ q (m + 1)).1) hq (fun r hr => by
    show (if r = q then m + 1 else σ.1 r) = _
    rw [if_neg hr])
  have e : ¬ (sS σ q (m + 1)).1 q = 0 := by
    show ¬ (if q = q then m + 1 else σ.1 q) = 0
    rw [if_pos rfl]; exact Nat.succ_ne_zero m
  rw [if_neg e] at a
  by_cases hz : σ.1 q = 0
  · rw [if_pos hz] at a
    rw [if_pos hz]; exact ar_p1 a
  · rw [if_neg hz] at a
    rw [if_neg hz]; exact ar_p2 a
theorem kgI_or (b : Nat → Nat) (s : Nat) : kgI b s = -1 ∨ ∃ p, p < 25 ∧ kgI b s = nI p := by
  cases hk : kg b s with
  | none => exact Or.inl (kgI_none hk)
  | some p => exact Or.inr ⟨p, (kg_some hk).1, kgI_some hk⟩
theorem bit1 (a : Int32) {t : Nat} (ht : t < 32) : ∃ s, s < 2 ∧ (a >>> (nI t &&& 31)) &&& 1 = nI s := by
  rw [px_bit a ht]
  by_cases h : bt a t = true
  · rw [if_pos h]; exact ⟨1, by omega, rfl⟩
  · rw [if_neg h]; exact ⟨0, by omega, rfl⟩
/-- an event's end: it answers true; the picture may be another -/
def Ev (F : mvW → Option (Int32 × mvW)) (w : mvW) (m : Nat) : Prop := ∃ w' τ k' hs', F w = some (1, w') ∧ IV w' τ k' hs' ∧ Bd τ m
section DO
variable {w : mvW} {σ : PS} {k : Nat} {hs : Nat → PS} {m : Nat}
theorem D_d112 {q v : Nat} (hO : OKs σ) (hq : q < 25) (hv : v < 20) (u : mvW) : f_L_does_0_112 (nI v) (mnI (σ.1 q)) (nI (brd σ.1 25)) (if σ.1 q = v + 1 then -1005 else nI (brd (sS σ q (v + 1)).1 25)) u = some (1, u) := by
  have h20 := hO.1 q hq
  have key := mn_eq v hv (σ.1 q) h20
  unfold f_L_does_0_112
  by_cases he : σ.1 q = v + 1
  · rw [if_neg (fun e => e (key.mpr he)), if_pos he, if_neg (fun e => e rfl)]
  · rw [if_pos (fun e => he (key.mp e)), if_neg he, brd_put hq]
    by_cases hz : σ.1 q = 0
    · rw [if_pos ((mn_none _ h20).2.mpr hz), if_pos hz, nI_1, if_neg (fun e => e rfl)]
    · rw [if_neg (fun e => hz ((mn_none _ h20).2.mp e)), if_neg hz, if_neg (fun e => e rfl)]
theorem D_d87 (h : IV w σ k hs) (hB : Bd σ m) {q v : Nat} (hq : q < 25) (hv : v < 20) {s0 : Int32} (hs0 : (¬ v % 10 = 0 ∧ s0 = -1) ∨ (v % 10 = 0 ∧ s0 = kgI σ.1 (v / 10))) : Ev (f_L_does_0_87 (nI q) (nI v) (mnI (σ.1 q)) (nI (brd σ.1 25)) s0) w (m + 1) := by
  have hO := h.1.2.2.2
  have n1 : ∀ p, p < 25 → ¬ nI p = -1 := by decide +kernel
  have good : (v % 10 = 0 → kgI σ.1 (v / 10) = -1 ∨ kgI σ.1 (v / 10) = nI q) → (s0 < 0 ∨ s0 = nI q) → Ev (f_L_does_0_87 (nI q) (nI v) (mnI (σ.1 q)) (nI (brd σ.1 25)) s0) w (m + 1) := by
    intro hk hc
    obtain ⟨w', k', hs', e1, h'⟩ := D_put h hq hv hk
    refine ⟨w', sS σ q (v + 1), k', hs', ?_, h', hB.up⟩
    have r := D_d112 (σ := σ) hO hq hv w'
    unfold f_L_does_0_87
    rw [e1, Option.bind_some]
    try dsimp only
    by_cases h0 : s0 < 0
    · rw [if_pos h0]; exact r
    · rw [if_neg h0, if_pos (hc.resolve_left h0)]; exact r
  rcases hs0 with ⟨h1, h2⟩ | ⟨h1, h2⟩
  · exact good (fun e => absurd e h1) (Or.inl (by rw [h2]; decide))
  · rcases kgI_or σ.1 (v / 10) with hk | ⟨p, hp, hk⟩
    · exact good (fun _ => Or.inl hk) (Or.inl (by rw [h2, hk]; decide))
    · by_cases e : p = q
      · exact good (fun _ => Or.inr (by rw [hk, e])) (Or.inr (by rw [h2, hk, e]))
      · have ne : ¬ nI p = nI q := fun g => e ((nI_eq (by omega) (by omega)).mp g)
        refine ⟨w, σ, k, hs, ?_, h, hB.up⟩
        unfold f_L_does_0_87
        rw [D_putK h hq hv h1 (by rw [hk]; rintro (g | g); exact n1 p hp g; exact ne g), Option.bind_some]
        try dsimp only
        rw [h2, hk, if_neg (q_nlt (L := 0) (b := 0) rfl (Nat.zero_le _) (by omega)), if_neg ne, if_neg (fun g => g rfl)]
theorem D_d169 (h : IV w σ k hs) (hB : Bd σ m) {q : Nat} (hq : q < 25) : Ev (f_L_does_0_169 (nI q) (mnI (σ.1 q))) w (m + 1) := by
  obtain ⟨w', k', hs', e1, h'⟩ := D_takeOff h hq
  refine ⟨w', sS σ q 0, k', hs', ?_, h', hB.up⟩
  unfold f_L_does_0_169
  rw [e1, Option.bind_some]
  try dsimp only
  rw [if_neg (show ¬ ¬ (if σ.1 q = 0 then (-1005 : Int32) else nI (σ.1 q - 1)) = mnI (σ.1 q) from fun g => g rfl), D_manI h' hq, Option.bind_some]
  try dsimp only
  have e : (sS σ q 0).1 q = 0 := by
    show (if q = q then 0 else σ.1 q) = 0
    rw [if_pos rfl]
  rw [e, if_neg (show ¬ ¬ mnI 0 = -1005 from fun g => g rfl)]
theorem D_d260 (h : IV w σ k hs) {s kd : Nat} (hs2 : s < 2) (h1 : 1 ≤ kd) (h5 : kd ≤ 5) {x y : Int32} (hx : σ.2.2.1 (5 * s + kd - 1) = x) : f_L_does_0_260 (nI kd) (nI s) x y y w = some (1, w) := by
  unfold f_L_does_0_260
  rw [if_neg (fun g => g rfl), D_hand h hs2 h1 h5, Option.bind_some]
  try dsimp only
  rw [if_neg (fun g => g hx)]
theorem D_d392 (h : IV w σ k hs) (hB : Bd σ m) (hm : m ≤ 1000) {c : Nat} (hc : c < 1375) (ha : alw σ c = true) {n : Int32} (hn : ¬ n = 0) : Ev (f_L_does_0_392 n (nI (tld c))) w (m + 1) := by
  obtain ⟨w', k', hs', e1, h', -⟩ := D_make h hc ha
  refine ⟨w', mkS σ c, k' + 1, hs', ?_, h', hB.mk hm h.1.2.2.2 hc (alw_wn ha)⟩
  unfold f_L_does_0_392
  rw [if_neg hn, e1, Option.bind_some]
  try dsimp only
  rw [if_neg (show ¬ (if chk (mkS σ c).1 (mkS σ c).2.1 = true then (1 : Int32) else 0) < 0 by cases chk (mkS σ c).1 (mkS σ c).2.1 <;> decide)]
theorem D_does (h : IV w σ k hs) (hB : Bd σ m) (hm : m ≤ 1000) (a : Int32) : Ev (f_L_does_0 a) w (m + 1) := by
  have hO := h.1.2.2.2
  have hl := numS_lt σ
  obtain ⟨q, hq, e1⟩ := D_low (a >>> (4 &&& 31)) (n := 25) (by omega) (by omega) w
  obtain ⟨v, hv, e2⟩ := D_low (a >>> (9 &&& 31)) (n := 20) (by omega) (by omega) w
  obtain ⟨r5, -, e5⟩ := D_low a (n := 12) (by omega) (by omega) w
  unfold Ev f_L_does_0
  rw [show f_L_low (a >>> (4 &&& 31)) 25 w = _ from e1, Option.bind_some]
  try dsimp only
  rw [show f_L_low (a >>> (9 &&& 31)) 20 w = _ from e2, Option.bind_some]
  try dsimp only
  rw [D_manI h hq, Option.bind_some]
  try dsimp only
  rw [D_total1 h, Option.bind_some]
  try dsimp only
  rw [show f_L_low a 12 w = _ from e5, Option.bind_some]
  try dsimp only
  by_cases c0 : nI r5 = 0
  · simp only [if_pos c0]
    have kd : nI v - nI v / 10 * 10 = nI (v % 10) := px_r10 (by omega)
    rw [kd]
    by_cases hk : v % 10 = 0
    · rw [if_neg (show ¬ ¬ nI (v % 10) = 0 by rw [hk]; exact fun g => g rfl), px_d10 (by omega), D_king h (s := v / 10) (by omega), Option.bind_some]
      exact D_d87 h hB hq hv (Or.inr ⟨hk, rfl⟩)
    · rw [if_pos (nI_ne0 (by omega) (by omega))]
      exact D_d87 h hB hq hv (Or.inl ⟨hk, rfl⟩)
  simp only [if_neg c0]
  by_cases c1 : nI r5 = 1
  · simp only [if_pos c1]
    by_cases b14 : (a >>> (14 &&& 31)) &&& 1 = 0
    · simp only [if_pos b14]
      exact ⟨w, σ, k, hs, rfl, h, hB.up⟩
    · simp only [if_neg b14]
      by_cases hn : mnI (σ.1 q) < 0
      · simp only [if_pos hn]
        exact D_d169 h hB hq
      · simp only [if_neg hn]
        by_cases hk : mnI (σ.1 q) - mnI (σ.1 q) / 10 * 10 = 0
        · simp only [if_pos hk]
          exact ⟨w, σ, k, hs, rfl, h, hB.up⟩
        · simp only [if_neg hk]
          exact D_d169 h hB hq
  simp only [if_neg c1]
  by_cases c2 : nI r5 = 2
  · simp only [if_pos c2]
    obtain ⟨r7, h7, e7⟩ := D_low (a >>> (9 &&& 31)) (n := 5) (by omega) (by omega) w
    obtain ⟨r8, h8, e8⟩ := D_low (a >>> (12 &&& 31)) (n := 5) (by omega) (by omega) w
    obtain ⟨s, hs2, es⟩ := bit1 a (t := 4) (by omega)
    have es' : (a >>> (4 &&& 31)) &&& 1 = nI s := es
    have ek : (1 : Int32) + nI r7 = nI (1 + r7) := nI_add 1 r7
    rw [show f_L_low (a >>> (9 &&& 31)) 5 w = _ from e7, Option.bind_some]
    try dsimp only
    rw [show f_L_low (a >>> (12 &&& 31)) 5 w = _ from e8, Option.bind_some]
    try dsimp only
    rw [es', ek, D_hand h hs2 (by omega) (by omega), Option.bind_some]
    try dsimp only
    by_cases he : σ.2.2.1 (5 * s + (1 + r7) - 1) = nI r8
    · rw [D_setHandN h hs2 (by omega) (by omega) (by omega) he, Option.bind_some]
      try dsimp only
      rw [if_neg (fun g => g he), D_d260 h hs2 (by omega) (by omega) he]
      exact ⟨w, σ, k, hs, rfl, h, hB.up⟩
    · obtain ⟨w', k', hs', b1, h'⟩ := D_setHand h hs2 (show 1 ≤ 1 + r7 by omega) (by omega) (show r8 ≤ 4 by omega) he
      rw [b1, Option.bind_some]
      try dsimp only
      rw [if_pos he, D_d260 h' hs2 (by omega) (by omega) (show (sH σ (5 * s + (1 + r7) - 1) (nI r8)).2.2.1 (5 * s + (1 + r7) - 1) = nI r8 by show upd _ _ _ _ = _; unfold upd; rw [if_pos rfl])]
      exact ⟨w', _, k', hs', rfl, h', bd_upd hB.up.1 ⟨r8, by omega, rfl⟩, hB.up.2⟩
  simp only [if_neg c2]
  by_cases c3 : nI r5 = 3
  · simp only [if_pos c3]
    obtain ⟨s, hs2, es⟩ := bit1 a (t := 4) (by omega)
    have es' : (a >>> (4 &&& 31)) &&& 1 = nI s := es
    have ht := hO.2
    rw [D_total0 h, Option.bind_some]
    try dsimp only
    rw [es']
    unfold f_L_does_0_306
    by_cases he : σ.2.1 = s
    · rw [if_neg (show ¬ ¬ nI s = nI σ.2.1 by rw [he]; exact fun g => g rfl), D_setSideN h hs2 he, Option.bind_some]
      try dsimp only
      rw [if_neg (by decide), if_neg (fun g => g rfl)]
      exact ⟨w, σ, k, hs, rfl, h, hB.up⟩
    · obtain ⟨w', k', hs', b1, h'⟩ := D_setSide h hs2 he
      obtain ⟨w2, d1, h2⟩ := D_total7 h'
      rw [if_pos (show ¬ nI s = nI σ.2.1 from fun g => he ((nI_eq (by omega) (by omega)).mp g).symm), b1, Option.bind_some]
      try dsimp only
      rw [if_pos (by decide), d1, Option.bind_some]
      try dsimp only
      rw [if_neg (fun g => g rfl), D_total0 h2, Option.bind_some]
      try dsimp only
      rw [if_neg (show ¬ ¬ nI (sT σ s).2.1 = nI s from fun g => g rfl)]
      exact ⟨w2, sT σ s, k', hs', rfl, h2, hB.up⟩
  simp only [if_neg c3]
  obtain ⟨w1, d1, h1⟩ := D_total7 h
  rw [d1, Option.bind_some]
  try dsimp only
  by_cases hz : numS σ = 0
  · rw [if_neg (show ¬ ¬ nI (numS σ) = 0 by rw [hz]; exact fun g => g rfl)]
    refine ⟨w1, σ, k, hs, ?_, h1, hB.up⟩
    unfold f_L_does_0_392
    rw [hz, if_pos (show nI 0 = 0 from rfl)]
  · have hnz : ¬ nI (numS σ) = 0 := nI_ne0 (by omega) (by omega)
    obtain ⟨r, hr, e6⟩ := D_low (a >>> (4 &&& 31)) (n := numS σ) (by omega) (by omega) w1
    obtain ⟨c, hc, ha, hnc⟩ := numN_rank (f := alw σ) (r := r) 1375 (show r < numS σ from hr)
    obtain ⟨w2, d2, h2⟩ := D_play h1 hc ha
    rw [hnc] at d2
    rw [if_pos hnz, e6, Option.bind_some]
    try dsimp only
    rw [d2, Option.bind_some]
    try dsimp only
    exact D_d392 h2 hB hm hc ha hnz
end DO
