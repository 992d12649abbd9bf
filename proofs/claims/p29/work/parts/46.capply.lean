/-! hands, the side to play; plays made and taken back -/
theorem px_isSide {s : Nat} (hs : s < 2) (w : mvW) : f_X4_isSide (nI s) w = some (1, w) := by
  unfold f_X4_isSide
  rw [if_neg (nI_pos (by omega)), if_neg (q_nle (L := 2) (b := 2) rfl hs (by omega))]
theorem px_isHK {k : Nat} (h1 : 1 ≤ k) (h5 : k ≤ 5) (w : mvW) : f_X4_isHandKind (nI k) w = some (1, w) := by
  unfold f_X4_isHandKind
  rw [if_neg (q_nlt (L := 1) (b := 1) rfl h1 (by omega)), if_neg (show ¬ (5 : Int32) < nI k from fun hh => by
    have := (nI_ltI (a := 5) (b := k) (by omega) (by omega)).mp hh
    omega)]
theorem px_hix {s k : Nat} (hs : s < 2) (h5 : k ≤ 5) : mv_ix 44 (25 + nI s * 6 + nI k) = some (25 + 6 * s + k) := by
  refine px_ixe ?_ (by omega) (by decide)
  rw [show nI s * (6 : Int32) = nI (s * 6) from pk_mul s 6, show (25 : Int32) + nI (s * 6) = nI (25 + s * 6) from nI_add 25 _, nI_add, show 25 + s * 6 + k = 25 + 6 * s + k by omega]
theorem C_inHand {w : mvW} {σ : PS} (hC : CI w σ) {s k : Nat} (hs : s < 2) (h1 : 1 ≤ k) (h5 : k ≤ 5) : f_X2_inHand (nI s) (nI k) w = some (σ.2.2.1 (5 * s + k - 1), w) := by
  unfold f_X2_inHand
  rw [px_isSide hs, Option.bind_some]
  dsimp only
  rw [if_neg (by decide), px_isHK h1 h5, Option.bind_some]
  dsimp only
  rw [if_neg (by decide), px_hix hs h5, Option.bind_some, hC.1.2.2.1 s k hs h1 h5]
def sH (σ : PS) (i : Nat) (x : Int32) : PS := (σ.1, σ.2.1, upd σ.2.2.1 i x, σ.2.2.2)
def sT (σ : PS) (t : Nat) : PS := (σ.1, t, σ.2.2.1, σ.2.2.2)
theorem C_setInHand {w : mvW} {σ : PS} (hC : CI w σ) {s k : Nat} (hs : s < 2) (h1 : 1 ≤ k) (h5 : k ≤ 5) (x : Int32) : ∃ w', f_X2_setInHand (nI s) (nI k) x w = some w' ∧ CI w' (sH σ (5 * s + k - 1) x) ∧ FC w w' := by
  obtain ⟨⟨a1, a2, a3, a4, a5⟩, hB, hU, hO⟩ := hC
  unfold f_X2_setInHand
  rw [px_isSide hs, Option.bind_some]
  dsimp only
  rw [if_neg (by decide), px_isHK h1 h5, Option.bind_some]
  dsimp only
  rw [if_neg (by decide), px_hix hs h5, Option.bind_some]
  have hf : FC w (mv_up w 2 (25 + 6 * s + k) x) := fun c hc => by funext j; exact rdn _ _ _ _ _ _ hc
  refine ⟨_, rfl, ⟨⟨fun q hq => ?_, ?_, fun s' k' hs' h1' h5' => ?_, fun i hi => ?_, fun s' hs' => ?_⟩, hB.keep hf, hU, hO⟩, hf⟩
  · rw [rd2, if_neg (by omega)]; exact a1 q hq
  · rw [rd2, if_neg (by omega)]; exact a2
  · rw [rd2]
    show _ = (if 5 * s' + k' - 1 = 5 * s + k - 1 then x else σ.2.2.1 (5 * s' + k' - 1))
    by_cases e : 25 + 6 * s' + k' = 25 + 6 * s + k
    · rw [if_pos e, if_pos (by omega)]
    · rw [if_neg e, if_neg (by omega)]; exact a3 s' k' hs' h1' h5'
  · rw [rd2, if_neg (by omega)]; exact a4 i hi
  · rw [rd2, if_neg (by omega)]; exact a5 s' hs'
theorem C_setSide {w : mvW} {σ : PS} (hC : CI w σ) {t : Nat} (ht : t ≤ 1) : CI (mv_up w 2 39 (nI t)) (sT σ t) ∧ FC w (mv_up w 2 39 (nI t)) := by
  obtain ⟨⟨a1, a2, a3, a4, a5⟩, hB, hU, hO⟩ := hC
  have hf : FC w (mv_up w 2 39 (nI t)) := fun c hc => by funext j; exact rdn _ _ _ _ _ _ hc
  refine ⟨⟨⟨fun q hq => ?_, ?_, fun s' k' hs' h1' h5' => ?_, fun i hi => ?_, fun s' hs' => ?_⟩, hB.keep hf, hU, hO.1, ht⟩, hf⟩
  · rw [rd2, if_neg (by omega)]; exact a1 q hq
  · rw [rd2, if_pos rfl]; rfl
  · rw [rd2, if_neg (by omega)]; exact a3 s' k' hs' h1' h5'
  · rw [rd2, if_neg (by omega)]; exact a4 i hi
  · rw [rd2, if_neg (by omega)]; exact a5 s' hs'
theorem C_isInCheck {w : mvW} {σ : PS} (hC : CI w σ) : f_X3_isInCheck w = some (if chk σ.1 σ.2.1 = true then 1 else 0, w) := by
  have ht1 : σ.2.1 ≤ 1 := hC.2.2.2.2
  obtain ⟨n, h1, h2, h3⟩ := C_chk hC (s := σ.2.1) (by omega)
  unfold f_X3_isInCheck
  rw [C_sideToPlay hC, Option.bind_some]
  dsimp only
  obtain ⟨zk, e1, e2⟩ := Option.bind_eq_some_iff.mp h2
  rw [e1, Option.bind_some, e2, Option.bind_some]
  dsimp only
  by_cases hn : 0 < n
  · rw [if_neg (nI_nle hn (by omega)), if_pos (h3.mp hn)]
  · have : n = 0 := by omega
    rw [this, if_pos (by decide), if_neg (fun h => hn (h3.mpr h))]
/-! drops -/
def dpN (kd to : Nat) : Nat := 20000 + 100 * kd + to
theorem C_dropNumber (kd to : Nat) (w : mvW) : f_X4_dropNumber (nI kd) (nI to) w = some (nI (dpN kd to), w) := by
  unfold f_X4_dropNumber dpN
  rw [show (100 : Int32) * nI kd = nI (100 * kd) from pk_mul 100 kd, show (20000 : Int32) + nI (100 * kd) = nI (20000 + 100 * kd) from nI_add 20000 _, nI_add]
theorem px_r100 {x : Nat} (h : x < 2 ^ 31) : nI x - nI x / 100 * 100 = nI (x % 100) := pk_rem (d := 100) h (by omega) (by omega)
theorem px_d100 {x : Nat} (h : x < 2 ^ 31) : nI x / 100 = nI (x / 100) := pk_div (d := 100) h (by omega) (by omega)
theorem px_r10000 {x : Nat} (h : x < 2 ^ 31) : nI x - nI x / 10000 * 10000 = nI (x % 10000) := pk_rem (d := 10000) h (by omega) (by omega)
def apD (σ : PS) (kd to : Nat) : PS := (sb σ.1 to (10 * σ.2.1 + kd + 1), 1 - σ.2.1, upd σ.2.2.1 (5 * σ.2.1 + kd - 1) (σ.2.2.1 (5 * σ.2.1 + kd - 1) - 1), σ.2.2.2)
theorem C_applyD {w : mvW} {σ : PS} (hC : CI w σ) {kd to : Nat} (h1 : 1 ≤ kd) (h5 : kd ≤ 5) (ht : to < 25) : ∃ w', f_X2_apply (nI (dpN kd to)) w = some (99, w') ∧ CI w' (apD σ kd to) ∧ FC w w' := by
  have ht1 : σ.2.1 ≤ 1 := hC.2.2.2.2
  have e1 : nI (dpN kd to) - nI (dpN kd to) / 100 * 100 = nI to := by
    rw [px_r100 (by unfold dpN; omega), show dpN kd to % 100 = to by unfold dpN; omega]
  have e2 : (nI (dpN kd to) - 20000) / 100 = nI kd := by
    rw [show nI (dpN kd to) - (20000 : Int32) = nI (dpN kd to - 20000) from pk_sub (b := 20000) (by unfold dpN; omega), px_d100 (by unfold dpN; omega), show (dpN kd to - 20000) / 100 = kd by unfold dpN; omega]
  unfold f_X2_apply
  rw [C_sideToPlay hC, Option.bind_some]
  unfold f_X2_setSideToPlay
  rw [Option.bind_some]
  dsimp only
  rw [show (1 : Int32) - nI σ.2.1 = nI (1 - σ.2.1) from pk_sub (a := 1) ht1, if_neg (q_nlt (L := 20000) (b := 20000) rfl (by unfold dpN; omega) (by unfold dpN; omega)), e1, e2]
  obtain ⟨a1, a2⟩ := C_setSide hC (t := 1 - σ.2.1) (by omega)
  obtain ⟨w2, b1, b2, b3⟩ := C_setInHand a1 (s := σ.2.1) (k := kd) (by omega) h1 h5 (σ.2.2.1 (5 * σ.2.1 + kd - 1) - 1)
  rw [C_inHand a1 (by omega) h1 h5, Option.bind_some]
  dsimp only
  rw [show (sT σ (1 - σ.2.1)).2.2.1 = σ.2.2.1 from rfl, b1, Option.bind_some]
  unfold f_X4_manOf
  rw [Option.bind_some]
  dsimp only
  have em : nI σ.2.1 * 10 + nI kd = encM (10 * σ.2.1 + kd + 1) := by
    rw [encM_s (by omega), show nI σ.2.1 * (10 : Int32) = nI (σ.2.1 * 10) from pk_mul _ 10, nI_add, show σ.2.1 * 10 + kd = 10 * σ.2.1 + kd + 1 - 1 by omega]
  obtain ⟨w3, c1, c2, c3⟩ := C_place b2 (q := to) (x := 10 * σ.2.1 + kd + 1) ht (by omega) (fun s hs e => by omega)
  rw [em, c1, Option.bind_some]
  exact ⟨w3, rfl, c2, a2.trans (b3.trans c3)⟩
theorem upd_back (h : Nat → Int32) (i : Nat) (d : Int32) : upd (upd h i (h i - d)) i (upd h i (h i - d) i + d) = h := by
  funext j
  by_cases e : j = i
  · subst e; simp [upd]
  · simp [upd, e]
theorem C_takeBackD {w : mvW} {σ : PS} {kd to : Nat} (hO : OKs σ) (hC : CI w (apD σ kd to)) (h1 : 1 ≤ kd) (h5 : kd ≤ 5) (ht : to < 25) (h0 : σ.1 to = 0) (x : Int32) : ∃ w', f_X2_takeBack (nI (dpN kd to)) x w = some w' ∧ CI w' σ ∧ FC w w' := by
  have ht1 : σ.2.1 ≤ 1 := hO.2
  have e1 : nI (dpN kd to) - nI (dpN kd to) / 100 * 100 = nI to := by
    rw [px_r100 (by unfold dpN; omega), show dpN kd to % 100 = to by unfold dpN; omega]
  have e2 : (nI (dpN kd to) - 20000) / 100 = nI kd := by
    rw [show nI (dpN kd to) - (20000 : Int32) = nI (dpN kd to - 20000) from pk_sub (b := 20000) (by unfold dpN; omega), px_d100 (by unfold dpN; omega), show (dpN kd to - 20000) / 100 = kd by unfold dpN; omega]
  have es : (1 : Int32) - nI (apD σ kd to).2.1 = nI σ.2.1 := by
    show (1 : Int32) - nI (1 - σ.2.1) = _
    rw [show (1 : Int32) - nI (1 - σ.2.1) = nI (1 - (1 - σ.2.1)) from pk_sub (a := 1) (by omega), show 1 - (1 - σ.2.1) = σ.2.1 by omega]
  unfold f_X2_takeBack
  rw [C_sideToPlay hC, Option.bind_some]
  unfold f_X2_setSideToPlay
  rw [Option.bind_some]
  dsimp only
  rw [es, if_neg (q_nlt (L := 20000) (b := 20000) rfl (by unfold dpN; omega) (by unfold dpN; omega)), e1, e2]
  obtain ⟨a1, a2⟩ := C_setSide hC (t := σ.2.1) ht1
  obtain ⟨w2, b1, b2, b3⟩ := C_place a1 (q := to) (x := 0) ht (by omega) (fun s hs e => by omega)
  obtain ⟨w3, c1, c2, c3⟩ := C_setInHand b2 (s := σ.2.1) (k := kd) (by omega) h1 h5 ((sS (sT (apD σ kd to) σ.2.1) to 0).2.2.1 (5 * σ.2.1 + kd - 1) + 1)
  rw [encM_0] at b1
  rw [b1, Option.bind_some, C_inHand b2 (by omega) h1 h5, Option.bind_some]
  dsimp only
  rw [c1, Option.bind_some]
  refine ⟨w3, rfl, ?_, a2.trans (b3.trans c3)⟩
  have e : sH (sS (sT (apD σ kd to) σ.2.1) to 0) (5 * σ.2.1 + kd - 1) ((sS (sT (apD σ kd to) σ.2.1) to 0).2.2.1 (5 * σ.2.1 + kd - 1) + 1) = σ := by
    obtain ⟨b, t, h, ct⟩ := σ
    unfold sH sS sT apD sb
    simp only [Prod.mk.injEq, and_true, true_and]
    refine ⟨?_, upd_back h _ 1⟩
    funext r
    by_cases e : r = to
    · subst e; simp; exact h0.symm
    · simp [e]
  rw [e] at c2
  exact c2
/-! moves -/
def apM (σ : PS) (f to : Nat) (pr : Bool) : PS := ((mkM σ f to pr).1, 1 - σ.2.1, (mkM σ f to pr).2.2.1, σ.2.2.2)
def mpN (f to : Nat) (pr : Bool) : Nat := 100 * f + to + (if pr = true then 10000 else 0)
theorem mpN_eq {f to : Nat} (hf : f < 25) (ht : to < 25) (pr : Bool) : mpN f to pr < 20000 ∧ mpN f to pr % 100 = to ∧ mpN f to pr % 10000 / 100 = f ∧ (mpN f to pr < 10000 ↔ pr = false) := by
  unfold mpN
  cases pr
  · rw [if_neg (by decide)]; refine ⟨by omega, by omega, by omega, by simp; omega⟩
  · rw [if_pos rfl]; refine ⟨by omega, by omega, by omega, by simp⟩
theorem C_moveNumber (f to : Nat) (pr : Bool) {a3 : Int32} (ha3 : a3 = 0 ↔ pr = false) (w : mvW) : f_X4_moveNumber (nI f) (nI to) a3 w = some (nI (mpN f to pr), w) := by
  unfold f_X4_moveNumber mpN
  rw [show (100 : Int32) * nI f = nI (100 * f) from pk_mul 100 f, nI_add]
  cases pr
  · rw [if_pos (ha3.mpr rfl), if_neg (by decide)]
    rw [show nI (100 * f + to) + (0 : Int32) = nI (100 * f + to + 0) from nI_add _ 0]
  · rw [if_neg (fun h => by have := ha3.mp h; cases this), if_pos rfl]
    rw [show nI (100 * f + to) + (10000 : Int32) = nI (100 * f + to + 10000) from nI_add _ 10000]
/-- the hand of a side gets what is taken, or gives it back -/
theorem C_change {w : mvW} {σ : PS} (hC : CI w σ) {s x : Nat} (hs : s < 2) (hx : x ≤ 20) (hk : x ≠ 0 → knd x ≠ 0) (d : Int32) : ∃ w', f_X2_changeHandForTaken (nI s) (encM x) d w = some w' ∧ CI w' (if x = 0 then σ else sH σ (5 * s + pkd x - 1) (σ.2.2.1 (5 * s + pkd x - 1) + d)) ∧ FC w w' := by
  unfold f_X2_changeHandForTaken
  by_cases h0 : x = 0
  · rw [if_neg (fun h => h ((px_encE x hx).mpr h0)), if_pos h0]
    exact ⟨w, rfl, hC, FC.refl w⟩
  · rw [if_pos (fun h => h0 ((px_encE x hx).mp h)), if_neg h0]
    unfold f_X4_kindOf
    obtain ⟨k1, k2⟩ := px_kind x hx h0
    obtain ⟨p1, p2⟩ := pkd_in h0 (hk h0)
    rw [Option.bind_some]
    dsimp only
    rw [k1]
    have g28 : ∃ w', f_X2_changeHandForTaken_28 (nI s) d (nI (pkd x)) w = some w' ∧ CI w' (sH σ (5 * s + pkd x - 1) (σ.2.2.1 (5 * s + pkd x - 1) + d)) ∧ FC w w' := by
      unfold f_X2_changeHandForTaken_28
      obtain ⟨w', b1, b2, b3⟩ := C_setInHand hC hs p1 p2 (σ.2.2.1 (5 * s + pkd x - 1) + d)
      rw [C_inHand hC hs p1 p2, Option.bind_some]
      dsimp only
      rw [b1, Option.bind_some]
      exact ⟨w', rfl, b2, b3⟩
    have hk10 : knd x < 10 := by unfold knd; omega
    by_cases h5 : knd x ≤ 5
    · rw [if_pos (q_le2 (L := 5) (b := 5) rfl h5 (by omega)), show knd x = pkd x by unfold pkd; rw [if_neg (by omega)]]
      exact g28
    · rw [if_neg (q_nle2 (L := 5) (b := 5) rfl (by omega) (by omega)), show nI (knd x) - 4 = nI (pkd x) by
        rw [show nI (knd x) - (4 : Int32) = nI (knd x - 4) from pk_sub (b := 4) (by omega)]; unfold pkd; rw [if_pos (by omega)]]
      exact g28
theorem encM_4 : ∀ x, x ≤ 16 → x ≠ 0 → encM x + 4 = encM (x + 4) ∧ encM (x + 4) - 4 = encM x := by decide +kernel
theorem C_applyM {w : mvW} {σ : PS} (hC : CI w σ) {f to : Nat} (hf : f < 25) (ht : to < 25) {pr : Bool} (h0 : wnmS σ.1 σ.2.1 f to pr = 0) : ∃ w', f_X2_apply (nI (mpN f to pr)) w = some (encM (σ.1 to), w') ∧ CI w' (apM σ f to pr) ∧ FC w w' := by
  obtain ⟨g1, g2, g3, g4, g5⟩ := wnmS_0 h0
  obtain ⟨o1, o2⟩ := own_of g1
  have hne := att_ne hf g2
  have ht1 : σ.2.1 ≤ 1 := hC.2.2.2.2
  have hU := hC.2.2.1
  have hf20 := hC.2.2.2.1 f hf
  have ht20 := hC.2.2.2.1 to ht
  obtain ⟨m1, m2, m3, m4⟩ := mpN_eq hf ht pr
  unfold f_X2_apply
  rw [C_sideToPlay hC, Option.bind_some]
  unfold f_X2_setSideToPlay
  rw [Option.bind_some]
  dsimp only
  rw [show (1 : Int32) - nI σ.2.1 = nI (1 - σ.2.1) from pk_sub (a := 1) ht1, if_pos (q_lt (L := 20000) (b := 20000) rfl m1 (by omega)), px_r10000 (by omega), px_d100 (by omega), px_r100 (by omega), m2, m3]
  obtain ⟨a1, a2⟩ := C_setSide hC (t := 1 - σ.2.1) (by omega)
  rw [C_manOn a1 hf, Option.bind_some]
  dsimp only
  rw [C_manOn a1 ht, Option.bind_some]
  dsimp only
  have nk : ∀ s, s < 2 → σ.1 to ≠ 10 * s + 1 := by
    intro s hs e
    exact g4 (by omega) (by rw [e]; unfold knd; omega)
  obtain ⟨w1, b1, b2, b3⟩ := C_change a1 (s := σ.2.1) (x := σ.1 to) (by omega) ht20 g4 1
  rw [show (sT σ (1 - σ.2.1)).1 = σ.1 from rfl, b1, Option.bind_some]
  obtain ⟨w2, c1, c2, c3⟩ := C_place b2 (q := f) (x := 0) hf (by omega) (fun s hs e => by omega)
  rw [encM_0] at c1
  rw [c1, Option.bind_some]
  -- the board behind
  have hb1 : (if σ.1 to = 0 then sT σ (1 - σ.2.1) else sH (sT σ (1 - σ.2.1)) (5 * σ.2.1 + pkd (σ.1 to) - 1) ((sT σ (1 - σ.2.1)).2.2.1 (5 * σ.2.1 + pkd (σ.1 to) - 1) + 1)).1 = σ.1 := by
    by_cases hz : σ.1 to = 0
    · rw [if_pos hz]; rfl
    · rw [if_neg hz]; rfl
  have fin : ∀ ad : Nat, ad = (if pr = true then 4 else 0) → ∃ w3, f_X2_place (nI to) (encM (σ.1 f + ad)) w2 = some w3 ∧ CI w3 (apM σ f to pr) ∧ FC w2 w3 := by
    intro ad had
    have hk : ad = 0 ∨ (ad = 4 ∧ 2 ≤ knd (σ.1 f) ∧ knd (σ.1 f) ≤ 5) := by
      cases pr
      · left; rw [had]; rfl
      · right; exact ⟨by rw [had]; rfl, g5 rfl⟩
    obtain ⟨w3, d1, d2, d3⟩ := C_place c2 (q := to) (x := σ.1 f + ad) ht (by rcases hk with rfl | ⟨rfl, k1, k2⟩ <;> (unfold knd at *; omega)) (fun s hs e r hr hrn hh => by
      have hh' : (if r = f then 0 else (if σ.1 to = 0 then sT σ (1 - σ.2.1) else sH (sT σ (1 - σ.2.1)) (5 * σ.2.1 + pkd (σ.1 to) - 1) ((sT σ (1 - σ.2.1)).2.2.1 (5 * σ.2.1 + pkd (σ.1 to) - 1) + 1)).1 r) = 10 * s + 1 := hh
      rw [hb1] at hh'
      by_cases er : r = f
      · rw [if_pos er] at hh'; omega
      · rw [if_neg er] at hh'
        have : σ.1 f = 10 * s + 1 := by rcases hk with rfl | ⟨rfl, k1, k2⟩ <;> (unfold knd at *; omega)
        exact er (hU s hs r f hr hf hh' this))
    refine ⟨w3, d1, ?_, d3⟩
    have e : sS (sS (if σ.1 to = 0 then sT σ (1 - σ.2.1) else sH (sT σ (1 - σ.2.1)) (5 * σ.2.1 + pkd (σ.1 to) - 1) ((sT σ (1 - σ.2.1)).2.2.1 (5 * σ.2.1 + pkd (σ.1 to) - 1) + 1)) f 0) to (σ.1 f + ad) = apM σ f to pr := by
      unfold sS apM mkM
      rw [hb1]
      refine Prod.ext ?_ ?_
      · funext r
        show sb (sb σ.1 f 0) to (σ.1 f + ad) r = (if r = f then 0 else if r = to then σ.1 f + (if pr = true then 4 else 0) else σ.1 r)
        unfold sb
        rw [had]
        by_cases e1 : r = f
        · rw [if_pos e1, if_neg (fun e => hne (e.symm.trans e1)), if_pos e1]
        · by_cases e2 : r = to
          · rw [if_pos e2, if_neg e1, if_pos e2]
          · rw [if_neg e2, if_neg e1, if_neg e1, if_neg e2]
      · by_cases hz : σ.1 to = 0
        · simp only [if_pos hz]; rfl
        · simp only [if_neg hz]; rfl
    rw [e] at d2
    exact d2
  cases pr
  · rw [if_pos (q_lt (L := 10000) (b := 10000) rfl (m4.mpr rfl) (by omega))]
    obtain ⟨w3, d1, d2, d3⟩ := fin 0 rfl
    rw [Nat.add_zero] at d1
    rw [d1, Option.bind_some]
    exact ⟨w3, rfl, d2, a2.trans (b3.trans (c3.trans d3))⟩
  · have : ¬ mpN f to true < 10000 := fun h => by have := m4.mp h; cases this
    rw [if_neg (q_nlt (L := 10000) (b := 10000) rfl (by omega) (by omega))]
    obtain ⟨w3, d1, d2, d3⟩ := fin 4 rfl
    have hk := g5 rfl
    rw [(encM_4 (σ.1 f) (by unfold knd at hk; omega) o1).1, d1, Option.bind_some]
    exact ⟨w3, rfl, d2, a2.trans (b3.trans (c3.trans d3))⟩
