/-! the law from its entry -/
theorem lw_arrK {args : Array Value} {s : State} {ty : FieldType} (hp : ty = .int ∨ ty = .char) (h : (Cond.arrayClass ty).before args s = true) : ∃ cA : ClassId, ArrOfT s cA ty ∧ va_RA s cA ty := by
  obtain ⟨cA, kA, comp, h1, h2, h3⟩ := Cond.arrayClass_spec h
  refine ⟨cA, fun n z => ?_, ?_⟩
  · rcases hp with rfl | rfl
    · exact ⟨fun k h => (by cases h), kA, h2, comp, h3⟩
    · exact ⟨fun k h => (by cases h), kA, h2, comp, h3⟩
  · rcases hp with rfl | rfl
    · exact h1
    · exact h1
theorem whole_start {p : Program} {e : Env} {s : State} {m : MethodId} {below : List Frame} {meth : Method} {c : Code} (l : Launch) (hflags : l.flags = flags0) {b L : Nat} {xs : Nat → Int32} (hL : L ≤ 260) (C0 : lw_At p s m meth c b L xs) : W p l e room_1 s m #[Value.ref b] below meth c s.heap [] 0 0 (lw_Z below #[Value.ref b] s) (entryFrame m ([Value.ref b] : List Value).toArray 4) := by
  obtain ⟨hx, hb, hr, hml, hown, hts, hX, hbl, hlocks, hgv⟩ := id C0
  have hA : ∀ q : Nat, s.heap.size ≤ q → (fun q : Nat => s.heap.size ≤ q) q := fun _ h => h
  have htw : ∀ w ∈ wsL_law, w.before #[Value.ref b] s = true := fun w hw => hts w (wsL_law_in w hw)
  have hown' : s.vm.findClass RL = some m.cls := hown
  obtain ⟨c0, i0, k0⟩ := u_known (C := RX0) (T := TX0) (N := 2) (n := 2) htw (by decide +kernel) (htw (.instantiable RX0 2) (by decide +kernel))
  obtain ⟨c1, i1, k1⟩ := u_known (C := RX1) (T := TX1) (N := 5) (n := 5) htw (by decide +kernel) (htw (.instantiable RX1 5) (by decide +kernel))
  obtain ⟨c2, i2, k2⟩ := u_known (C := RX2) (T := TX2) (N := 2) (n := 2) htw (by decide +kernel) (htw (.instantiable RX2 2) (by decide +kernel))
  obtain ⟨c3, i3, k3⟩ := u_known (C := RX3) (T := TX3) (N := 6) (n := 6) htw (by decide +kernel) (htw (.instantiable RX3 6) (by decide +kernel))
  obtain ⟨c4, i4, k4⟩ := u_known (C := RX4) (T := TX4) (N := 7) (n := 7) htw (by decide +kernel) (htw (.instantiable RX4 7) (by decide +kernel))
  obtain ⟨cI, aI, rI⟩ := lw_arrK (Or.inl rfl) (htw (Cond.arrayClass .int) (by decide +kernel))
  obtain ⟨cC, aC, rC⟩ := lw_arrK (Or.inr rfl) (htw (Cond.arrayClass .char) (by decide +kernel))
  obtain ⟨D, hK⟩ : ∃ D : va_G, va_K D vwCl [(cI, .int), (cC, .char)] s := by
    refine ⟨(fun k => if k = 0 then c0 else if k = 1 then c1 else if k = 2 then c2 else if k = 3 then c3 else c4, fun k => if k = 0 then i0 else if k = 1 then i1 else if k = 2 then i2 else if k = 3 then i3 else i4), ?_, ?_⟩
    · intro k q hq
      match k, hq with
      | 0, hq => cases hq; exact k0
      | 1, hq => cases hq; exact k1
      | 2, hq => cases hq; exact k2
      | 3, hq => cases hq; exact k3
      | 4, hq => cases hq; exact k4
      | k + 5, hq => simp [vwCl] at hq
    · intro k q hq
      match k, hq with
      | 0, hq => cases hq; exact ⟨aI, rI⟩
      | 1, hq => cases hq; exact ⟨aC, rC⟩
      | k + 2, hq => simp at hq
  obtain ⟨td, hSt, htd⟩ := lw_St htw hts hgv
  have hXX : mv_X p s m #[Value.ref b] meth c D vwCl cI cC tbX td (fun q => s.heap.size ≤ q) code 4 RL wsL_law := ⟨hx, hb, hml, hown', htw, hA, hK, hSt, hlocks⟩
  obtain ⟨w', hw⟩ := D_law (cellV L xs)
  obtain ⟨ls, e1, e2⟩ := mv_entry td (fun _ => 0) m [mvT 3000] (maxL := 4) rfl
  have e3 : ([mvT 3000].map (mv_val td (fun _ => 0))) = [Value.ref b] := by rw [List.map_cons, mv_valT _ htd]; rfl
  rw [e3] at e1
  rw [e1]
  exact e_law (l := l) (e := e) (below := below) (ad0 := fun _ => 0) hXX hr htd hX hbl (by omega) (fun _ _ => 0) (1, w') hw (fun _ => 0) s.heap [] ls (fun _ _ => rfl) e2 (fun k q h => by simp [mv_wl] at h) ⟨fun i j p q h => by simp [mv_wl] at h, fun k q h => by simp [mv_wl] at h⟩ va_S.rf
