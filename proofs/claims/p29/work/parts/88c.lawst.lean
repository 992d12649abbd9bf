/-! what the Statement gives of the start: statics, the text of letters, links -/
theorem lw_arr {args : Array Value} {s : State} {A : Nat → Prop} {C n : String} {vals : List Int32} (hl : (Cond.laysStatic C n "[I").before args s = true) (hini : (Cond.initialized C).before args s = true) (harr : (Cond.arrayOf (.static C n "[I") .int).before args s = true) (hlen : (Cond.eq (.length (.static C n "[I")) (.int (Int32.ofNat vals.length))).before args s = true) (hel : ∀ j : Nat, j < vals.length → (Cond.eq (.elem (.static C n "[I") (.int (Int32.ofNat j))) (.int (vals.getD j 0))).before args s = true) (hN : vals.length < 2 ^ 31) (hA : ∀ a : Nat, a < s.heap.size → ¬ A a) : ∃ t : Nat, va_Z C n "[I" (.ref t) A s s.heap ∧ va_T .int t vals.length (fun j => .int (vals.getD j 0)) A s s.heap := by
  obtain ⟨t, h1, h2⟩ := va_Tof (f := fun j => .int (vals.getD j 0)) hN harr (va_eqt hlen) (fun j hj => va_eqt (hel j hj)) hA
  exact ⟨t, va_Zref hl hini h1 hA, h2⟩
theorem lw_St {s : State} {b : Nat} (hts : ∀ w ∈ wsL_law, w.before #[Value.ref b] s = true) (hts0 : ∀ w ∈ lw_tbl, w.before #[Value.ref b] s = true) (hgv : (Jvm.Cond.and given_1 narrow_1).before #[Value.ref b] s = true) : ∃ td : Nat → Option Nat, mv_St tbX td (fun q => s.heap.size ≤ q) s s.heap ∧ td 3000 = some b := by
  have hs := flat_of_before _ hgv
  have hA : ∀ a : Nat, a < s.heap.size → ¬ (fun q : Nat => s.heap.size ≤ q) a := fun a h => Nat.not_le.mpr h
  obtain ⟨t0, z0, y0⟩ := lw_arr (C := "FiveShogi") (n := "ROWS_ON") (vals := tb_ROWS_ON) (A := fun q : Nat => s.heap.size ≤ q) (hts0 _ (by decide +kernel)) (hts0 _ (by decide +kernel)) (hs _ (by decide +kernel)) (hs _ (by decide +kernel)) (fun j hj => hs _ ((by decide +kernel : ∀ j, j < tb_ROWS_ON.length → (Cond.eq (.elem (.static "FiveShogi" "ROWS_ON" "[I") (.int (Int32.ofNat j))) (.int (tb_ROWS_ON.getD j 0))) ∈ _) j hj)) (by decide) hA
  obtain ⟨t1, z1, y1⟩ := lw_arr (C := "FiveShogi") (n := "COLUMNS_ON") (vals := tb_COLUMNS_ON) (A := fun q : Nat => s.heap.size ≤ q) (hts0 _ (by decide +kernel)) (hts0 _ (by decide +kernel)) (hs _ (by decide +kernel)) (hs _ (by decide +kernel)) (fun j hj => hs _ ((by decide +kernel : ∀ j, j < tb_COLUMNS_ON.length → (Cond.eq (.elem (.static "FiveShogi" "COLUMNS_ON" "[I") (.int (Int32.ofNat j))) (.int (tb_COLUMNS_ON.getD j 0))) ∈ _) j hj)) (by decide) hA
  obtain ⟨t2, z2, y2⟩ := lw_arr (C := "FiveShogi") (n := "STEPS") (vals := tb_STEPS) (A := fun q : Nat => s.heap.size ≤ q) (hts0 _ (by decide +kernel)) (hts0 _ (by decide +kernel)) (hs _ (by decide +kernel)) (hs _ (by decide +kernel)) (fun j hj => hs _ ((by decide +kernel : ∀ j, j < tb_STEPS.length → (Cond.eq (.elem (.static "FiveShogi" "STEPS" "[I") (.int (Int32.ofNat j))) (.int (tb_STEPS.getD j 0))) ∈ _) j hj)) (by decide) hA
  obtain ⟨t3, z3, y3⟩ := lw_arr (C := "FiveShogi") (n := "SLIDES") (vals := tb_SLIDES) (A := fun q : Nat => s.heap.size ≤ q) (hts0 _ (by decide +kernel)) (hts0 _ (by decide +kernel)) (hs _ (by decide +kernel)) (hs _ (by decide +kernel)) (fun j hj => hs _ ((by decide +kernel : ∀ j, j < tb_SLIDES.length → (Cond.eq (.elem (.static "FiveShogi" "SLIDES" "[I") (.int (Int32.ofNat j))) (.int (tb_SLIDES.getD j 0))) ∈ _) j hj)) (by decide) hA
  obtain ⟨t4, z4, y4⟩ := lw_arr (C := "FiveShogi") (n := "WORTHS") (vals := tb_WORTHS) (A := fun q : Nat => s.heap.size ≤ q) (hts0 _ (by decide +kernel)) (hts0 _ (by decide +kernel)) (hs _ (by decide +kernel)) (hs _ (by decide +kernel)) (fun j hj => hs _ ((by decide +kernel : ∀ j, j < tb_WORTHS.length → (Cond.eq (.elem (.static "FiveShogi" "WORTHS" "[I") (.int (Int32.ofNat j))) (.int (tb_WORTHS.getD j 0))) ∈ _) j hj)) (by decide) hA
  obtain ⟨t5, z5, y5⟩ := lw_arr (C := "FiveShogi") (n := "FIRST_MEN") (vals := tb_FIRST_MEN) (A := fun q : Nat => s.heap.size ≤ q) (hts0 _ (by decide +kernel)) (hts0 _ (by decide +kernel)) (hs _ (by decide +kernel)) (hs _ (by decide +kernel)) (fun j hj => hs _ ((by decide +kernel : ∀ j, j < tb_FIRST_MEN.length → (Cond.eq (.elem (.static "FiveShogi" "FIRST_MEN" "[I") (.int (Int32.ofNat j))) (.int (tb_FIRST_MEN.getD j 0))) ∈ _) j hj)) (by decide) hA
  refine ⟨fun k => if k = 0 then some t0 else if k = 1 then some t1 else if k = 2 then some t2 else if k = 3 then some t3 else if k = 4 then some t4 else if k = 5 then some t5 else if k = 3000 then some b else none, ⟨?_, ?_, ?_, trivial, trivial, ?_⟩, rfl⟩
  · intro k x hx
    match k, hx with
    | 0, hx => cases hx; exact ⟨t0, rfl, z0, y0⟩
    | 1, hx => cases hx; exact ⟨t1, rfl, z1, y1⟩
    | 2, hx => cases hx; exact ⟨t2, rfl, z2, y2⟩
    | 3, hx => cases hx; exact ⟨t3, rfl, z3, y3⟩
    | 4, hx => cases hx; exact ⟨t4, rfl, z4, y4⟩
    | 5, hx => cases hx; exact ⟨t5, rfl, z5, y5⟩
    | k + 6, hx => cases hx
  · intro q hq
    exact va_Nw.of rfl (hts0 _ ((by decide +kernel : ∀ q ∈ tbX.2.1, Cond.methodLinkNest q.1 q.2.1 q.2.2.1 q.2.2.2 ∈ lw_tbl) q hq))
  · intro k x hx
    exact absurd hx (by show ¬ (([] : List (String × Nat × String × List Int32))[k]? = some x); simp)
  · intro q hq
    exact va_Nw.of rfl (hts0 _ ((by decide +kernel : ∀ q ∈ tbX.2.2.2, Cond.fieldLinkNest q.1 q.2.1 q.2.2.1 q.2.2.2.1 q.2.2.2.2.1 q.2.2.2.2.2 ∈ lw_tbl) q hq))
