/-! A SMALL MACHINE over the kit: a world of cells that hold ints, at addresses ad k; locals and stack of ints and of cells by number; one judgement EV, a row an instruction; an answer 'none' asks nothing. -/
abbrev mvV : Type := Int32 ⊕ (Nat ⊕ Nat)
abbrev mvI (x : Int32) : mvV := .inl x
abbrev mvC (k : Nat) : mvV := .inr (.inl k)
abbrev mvT (k : Nat) : mvV := .inr (.inr k)
def mv_val (td : Nat → Option Nat) (ad : Nat → Nat) (v : mvV) : Value := match v with
  | .inl x => .int x
  | .inr (.inl k) => .ref (ad k)
  | .inr (.inr k) => va_rf (td k)
/-- a cell's shape: a row of ints (true: of chars) of a length; or an object of a class: a field is an int, null, or a cell -/
abbrev mvSh : Type := (Bool × Nat) ⊕ (Nat × List (Option (Option Nat)))
abbrev mvW : Type := Nat → Nat → Int32
def mv_fld (ad : Nat → Nat) (w : Nat → Int32) : Nat → List (Option (Option Nat)) → List Value
  | _, [] => []
  | i, none :: t => .int (w i) :: mv_fld ad w (i + 1) t
  | i, some none :: t => .null :: mv_fld ad w (i + 1) t
  | i, some (some j) :: t => .ref (ad j) :: mv_fld ad w (i + 1) t
def mv_ent (cI cC : ClassId) (ad : Nat → Nat) (w : Nat → Int32) (x : mvSh) : va_E := match x with
  | .inl (b, n) => .inl (if b then cC else cI, n, .inl w)
  | .inr (ci, fs) => .inr (ci, mv_fld ad w 0 fs)
def mv_wl (cI cC : ClassId) (ad : Nat → Nat) (w : mvW) : Nat → List mvSh → va_W
  | _, [] => []
  | k, x :: t => (ad k, mv_ent cI cC ad (w k) x) :: mv_wl cI cC ad w (k + 1) t
def mv_up (w : mvW) (k i : Nat) (x : Int32) : mvW := fun c => if c = k then upd (w k) i x else w c
def mv_cp (w : mvW) (k0 k1 sp dp n : Nat) : mvW := fun c => if c = k1 then va_cpy (w k0) (w k1) sp dp n else w c
theorem mv_wl_get (cI cC : ClassId) (ad : Nat → Nat) (w : mvW) : ∀ (sh : List mvSh) (n k : Nat), (mv_wl cI cC ad w n sh)[k]? = (sh[k]?).map (fun x => (ad (n + k), mv_ent cI cC ad (w (n + k)) x))
  | [], _, k => by simp [mv_wl]
  | x :: t, n, 0 => by simp [mv_wl]
  | x :: t, n, k + 1 => by
    rw [mv_wl, List.getElem?_cons_succ, mv_wl_get cI cC ad w t (n + 1) k, List.getElem?_cons_succ]
    rw [show n + 1 + k = n + (k + 1) by omega]
theorem mv_wl_at (cI cC : ClassId) (ad : Nat → Nat) (w : mvW) {sh : List mvSh} {k : Nat} {x : mvSh} (h : sh[k]? = some x) : (mv_wl cI cC ad w 0 sh)[k]? = some (ad k, mv_ent cI cC ad (w k) x) := by
  rw [mv_wl_get, h]; simp
theorem mv_wl_same (cI cC : ClassId) (ad : Nat → Nat) (w w' : mvW) : ∀ (sh : List mvSh) (n : Nat), (∀ k, n ≤ k → w' k = w k) → mv_wl cI cC ad w' n sh = mv_wl cI cC ad w n sh
  | [], _, _ => rfl
  | x :: t, n, h => by
    rw [mv_wl, mv_wl, h n (Nat.le_refl _), mv_wl_same cI cC ad w w' t (n + 1) (fun k hk => h k (by omega))]
theorem mv_wl_set (cI cC : ClassId) (ad : Nat → Nat) (w w' : mvW) {y : mvSh} : ∀ (sh : List mvSh) (n k : Nat), sh[k]? = some y → (∀ c, c ≠ n + k → w' c = w c) → (mv_wl cI cC ad w n sh).set k (ad (n + k), mv_ent cI cC ad (w' (n + k)) y) = mv_wl cI cC ad w' n sh
  | [], _, _, h, _ => by simp at h
  | x :: t, n, 0, h, hw => by
    simp only [List.getElem?_cons_zero, Option.some.injEq] at h
    subst h
    rw [mv_wl, mv_wl, List.set_cons_zero]
    rw [mv_wl_same cI cC ad w w' t (n + 1) (fun k hk => hw k (by omega))]
    rfl
  | x :: t, n, k + 1, h, hw => by
    rw [List.getElem?_cons_succ] at h
    rw [mv_wl, mv_wl, List.set_cons_succ, hw n (by omega)]
    have := mv_wl_set cI cC ad w w' t (n + 1) k h (fun c hc => hw c (by omega))
    rw [show n + 1 + k = n + (k + 1) by omega] at this
    rw [this]
theorem mv_fld_get (ad : Nat → Nat) (w : Nat → Int32) : ∀ (fs : List (Option (Option Nat))) (n k : Nat), (mv_fld ad w n fs)[k]? = (fs[k]?).map (fun o => match o with | none => Value.int (w (n + k)) | some none => .null | some (some j) => .ref (ad j))
  | [], _, k => by simp [mv_fld]
  | none :: t, n, 0 => by simp [mv_fld]
  | some none :: t, n, 0 => by simp [mv_fld]
  | some (some j) :: t, n, 0 => by simp [mv_fld]
  | none :: t, n, k + 1 => by
    rw [mv_fld, List.getElem?_cons_succ, mv_fld_get ad w t (n + 1) k, List.getElem?_cons_succ, show n + 1 + k = n + (k + 1) by omega]
  | some none :: t, n, k + 1 => by
    rw [mv_fld, List.getElem?_cons_succ, mv_fld_get ad w t (n + 1) k, List.getElem?_cons_succ, show n + 1 + k = n + (k + 1) by omega]
  | some (some j) :: t, n, k + 1 => by
    rw [mv_fld, List.getElem?_cons_succ, mv_fld_get ad w t (n + 1) k, List.getElem?_cons_succ, show n + 1 + k = n + (k + 1) by omega]
theorem mv_fld_len (ad : Nat → Nat) (w : Nat → Int32) : ∀ (fs : List (Option (Option Nat))) (n : Nat), (mv_fld ad w n fs).length = fs.length
  | [], _ => rfl
  | none :: t, n => by simp [mv_fld, mv_fld_len ad w t (n + 1)]
  | some none :: t, n => by simp [mv_fld, mv_fld_len ad w t (n + 1)]
  | some (some j) :: t, n => by simp [mv_fld, mv_fld_len ad w t (n + 1)]
theorem mv_fld_same (ad : Nat → Nat) (w w' : Nat → Int32) : ∀ (fs : List (Option (Option Nat))) (n : Nat), (∀ k, n ≤ k → w' k = w k) → mv_fld ad w' n fs = mv_fld ad w n fs
  | [], _, _ => rfl
  | none :: t, n, h => by rw [mv_fld, mv_fld, h n (Nat.le_refl _), mv_fld_same ad w w' t (n + 1) (fun k hk => h k (by omega))]
  | some none :: t, n, h => by rw [mv_fld, mv_fld, mv_fld_same ad w w' t (n + 1) (fun k hk => h k (by omega))]
  | some (some j) :: t, n, h => by rw [mv_fld, mv_fld, mv_fld_same ad w w' t (n + 1) (fun k hk => h k (by omega))]
theorem mv_fld_set (ad : Nat → Nat) (w : Nat → Int32) (x : Int32) : ∀ (fs : List (Option (Option Nat))) (n k : Nat), fs[k]? = some none → (mv_fld ad w n fs).set k (.int x) = mv_fld ad (upd w (n + k) x) n fs
  | [], _, _, h => by simp at h
  | none :: t, n, 0, _ => by
    rw [mv_fld, mv_fld, List.set_cons_zero, mv_fld_same ad w (upd w (n + 0) x) t (n + 1) (fun k hk => by simp [upd]; omega)]
    simp [upd]
  | some o :: t, n, 0, h => by simp at h
  | none :: t, n, k + 1, h => by
    rw [List.getElem?_cons_succ] at h
    have ih := mv_fld_set ad w x t (n + 1) k h
    rw [show n + 1 + k = n + (k + 1) by omega] at ih
    rw [mv_fld, mv_fld, List.set_cons_succ, ih]
    have : upd w (n + (k + 1)) x n = w n := by simp [upd]
    rw [this]
  | some none :: t, n, k + 1, h => by
    rw [List.getElem?_cons_succ] at h
    have ih := mv_fld_set ad w x t (n + 1) k h
    rw [show n + 1 + k = n + (k + 1) by omega] at ih
    rw [mv_fld, mv_fld, List.set_cons_succ, ih]
  | some (some j) :: t, n, k + 1, h => by
    rw [List.getElem?_cons_succ] at h
    have ih := mv_fld_set ad w x t (n + 1) k h
    rw [show n + 1 + k = n + (k + 1) by omega] at ih
    rw [mv_fld, mv_fld, List.set_cons_succ, ih]
/-- what nobody writes: rows of ints in statics; links to private members of nest mates; String constants; two statics of the JDK's -/
abbrev mvTb : Type := List (String × String × List Int32) × List (String × Nat × MethodName × String) × List (String × Nat × String × List Int32) × List (String × Nat × String × String × String × String)
def mv_St (tb : mvTb) (td : Nat → Option Nat) (A : Nat → Prop) (U : State) (H : Heap) : Prop :=
  (∀ (k : Nat) (x : String × String × List Int32), tb.1[k]? = some x → ∃ t : Nat, td k = some t ∧ va_Z x.1 x.2.1 "[I" (.ref t) A U H ∧ va_T .int t x.2.2.length (fun j => .int (x.2.2.getD j 0)) A U H) ∧
  (∀ q ∈ tb.2.1, va_Nw (.methodLinkNest q.1 q.2.1 q.2.2.1 q.2.2.2) U) ∧
  (∀ (k : Nat) (x : String × Nat × String × List Int32), tb.2.2.1[k]? = some x → ∃ a t : Nat, td (1000 + 2 * k) = some a ∧ td (1001 + 2 * k) = some t ∧ vk_R x.1 x.2.1 x.2.2.1 a U ∧ va_O "java/lang/String" a A U H ∧ va_OF "java/lang/String" "coder" "B" (.int 0) a A U H ∧ va_OF "java/lang/String" "value" "[B" (.ref t) a A U H ∧ va_T .byte t x.2.2.2.length (fun j => .int (x.2.2.2.getD j 0)) A U H) ∧
  True ∧ True ∧
  ∀ q ∈ tb.2.2.2, va_Nw (.fieldLinkNest q.1 q.2.1 q.2.2.1 q.2.2.2.1 q.2.2.2.2.1 q.2.2.2.2.2) U
theorem mv_St.warm {tb : mvTb} {td : Nat → Option Nat} {A : Nat → Prop} {u U : State} {H : Heap} (hW : u.WarmedH U.vm) (h : mv_St tb td A u H) : mv_St tb td A U H := by
  obtain ⟨h1, h2, h3, h4, h5, h6⟩ := h
  refine ⟨fun k x hk => ?_, fun q hq => va_Nw.warmM hW (h2 q hq), fun k x hk => ?_, h4, h5, fun q hq => va_Nw.warmF hW (h6 q hq)⟩
  · obtain ⟨t, a1, a2, a3⟩ := h1 k x hk
    exact ⟨t, a1, a2.moved hW.alike, a3.moved hW.alike⟩
  · obtain ⟨a, t, a1, a2, a3, a4, a5, a6, a7⟩ := h3 k x hk
    exact ⟨a, t, a1, a2, a3.warm hW, a4.moved hW.alike, a5.moved hW.alike, a6.moved hW.alike, a7.moved hW.alike⟩
theorem mv_St.same {tb : mvTb} {td : Nat → Option Nat} {A : Nat → Prop} {u U : State} {H : Heap} (hv : u.vm = U.vm) (h : mv_St tb td A u H) : mv_St tb td A U H := by
  have ha : u.vm.Alike U.vm := hv ▸ Vm.Alike.refl u.vm
  obtain ⟨h1, h2, h3, h4, h5, h6⟩ := h
  refine ⟨fun k x hk => ?_, fun q hq => va_Nw.same rfl hv (h2 q hq), fun k x hk => ?_, h4, h5, fun q hq => va_Nw.same rfl hv (h6 q hq)⟩
  · obtain ⟨t, a1, a2, a3⟩ := h1 k x hk
    exact ⟨t, a1, a2.moved ha, a3.moved ha⟩
  · obtain ⟨a, t, a1, a2, a3, a4, a5, a6, a7⟩ := h3 k x hk
    exact ⟨a, t, a1, a2, a3.same hv.symm, a4.moved ha, a5.moved ha, a6.moved ha, a7.moved ha⟩
theorem mv_St.kept {tb : mvTb} {td : Nat → Option Nat} {A : Nat → Prop} {U : State} {H H1 : Heap} (h : mv_St tb td A U H) (hq : ∀ a : Nat, a < H.size → ¬ A a → H1[a]? = H[a]?) : mv_St tb td A U H1 := by
  obtain ⟨h1, h2, h3, h4, h5, h6⟩ := h
  refine ⟨fun k x hk => ?_, h2, fun k x hk => ?_, h4, h5, h6⟩
  · obtain ⟨t, a1, a2, a3⟩ := h1 k x hk
    exact ⟨t, a1, a2.kept hq, a3.kept hq⟩
  · obtain ⟨a, t, a1, a2, a3, a4, a5, a6, a7⟩ := h3 k x hk
    exact ⟨a, t, a1, a2, a3, a4.kept hq, a5.kept hq, a6.kept hq, a7.kept hq⟩
theorem mv_St.narrow {tb : mvTb} {td : Nat → Option Nat} {A B : Nat → Prop} {U : State} {H : Heap} (h : mv_St tb td A U H) (hAB : ∀ q, B q → A q) : mv_St tb td B U H := by
  obtain ⟨h1, h2, h3, h4, h5, h6⟩ := h
  refine ⟨fun k x hk => ?_, h2, fun k x hk => ?_, h4, h5, h6⟩
  · obtain ⟨t, a1, a2, a3⟩ := h1 k x hk
    exact ⟨t, a1, a2.narrow hAB, a3.narrow hAB⟩
  · obtain ⟨a, t, a1, a2, a3, a4, a5, a6, a7⟩ := h3 k x hk
    exact ⟨a, t, a1, a2, a3, a4.narrow hAB, a5.narrow hAB, a6.narrow hAB, a7.narrow hAB⟩
/-- locals -/
def mv_lh (ls : Array Slot) (td : Nat → Option Nat) (ad : Nat → Nat) (L : List (Option mvV)) : Prop := ls.size = L.length ∧ lv_wf ls ∧ ∀ (i : Nat) (v : mvV), L[i]? = some (some v) → ls[i]? = some (.val (mv_val td ad v))
theorem mv_cat (td : Nat → Option Nat) (ad : Nat → Nat) (v : mvV) : (mv_val td ad v).category = 1 := by
  rcases v with x | x | x
  · rfl
  · rfl
  · simp only [mv_val]; cases td x <;> rfl
theorem mv_cats (td : Nat → Option Nat) (ad : Nat → Nat) : ∀ st : List mvV, ((st.map (mv_val td ad)).map fun v => v.category).sum = st.length
  | [] => rfl
  | v :: t => by simp only [List.map_cons, List.sum_cons, List.length_cons, mv_cat, mv_cats td ad t]; omega
def mv_la (td : Nat → Option Nat) (ad : Nat → Nat) (L : List (Option mvV)) : List (Nat × Value) := (List.range L.length).filterMap (fun i => (L[i]?).join.map (fun v => (i, mv_val td ad v)))
theorem mv_la_mem {td : Nat → Option Nat} {ad : Nat → Nat} {L : List (Option mvV)} {i : Nat} {v : mvV} (h : L[i]? = some (some v)) : (i, mv_val td ad v) ∈ mv_la td ad L := by
  refine List.mem_filterMap.mpr ⟨i, List.mem_range.mpr (List.getElem?_eq_some_iff.mp h).1, ?_⟩
  rw [h]; rfl
theorem mv_la_of {td : Nat → Option Nat} {ad : Nat → Nat} {L : List (Option mvV)} {q : Nat × Value} (h : q ∈ mv_la td ad L) : ∃ v, L[q.1]? = some (some v) ∧ q.2 = mv_val td ad v := by
  obtain ⟨i, -, h2⟩ := List.mem_filterMap.mp h
  cases hL : L[i]? with
  | none => rw [hL] at h2; simp at h2
  | some o =>
    rw [hL] at h2
    cases o with
    | none => simp at h2
    | some v => simp at h2; subst h2; exact ⟨v, hL, rfl⟩
theorem mv_lh.has {ls : Array Slot} {td : Nat → Option Nat} {ad : Nat → Nat} {L : List (Option mvV)} (h : mv_lh ls td ad L) : lv_has ls L.length (mv_la td ad L) := by
  refine ⟨h.1, h.2.1, fun q hq => ?_⟩
  obtain ⟨v, h1, h2⟩ := mv_la_of hq
  rw [h2]; exact h.2.2 _ _ h1
theorem mv_lh.set {ls' : Array Slot} {td : Nat → Option Nat} {ad : Nat → Nat} {L : List (Option mvV)} {i : Nat} {x : mvV} (hl : lv_has ls' L.length ((i, mv_val td ad x) :: (mv_la td ad L).filter (fun q => !(q.1 == i) && !(q.1 + 1 == i && q.2.category == 2)))) : mv_lh ls' td ad (L.set i (some x)) := by
  refine ⟨by rw [List.length_set]; exact hl.1, hl.2.1, fun j v hj => ?_⟩
  rw [List.getElem?_set] at hj
  by_cases e : i = j
  · subst e
    rw [if_pos rfl] at hj
    split at hj
    · cases hj
      exact hl.2.2 _ List.mem_cons_self
    · cases hj
  · rw [if_neg e] at hj
    refine hl.2.2 (j, mv_val td ad v) (List.mem_cons_of_mem _ (List.mem_filter.mpr ⟨mv_la_mem hj, ?_⟩))
    have e2 : ¬ j = i := fun q => e q.symm
    simp [e2, mv_cat]
def mv_mask : List Bool → List (Option mvV) → List (Option mvV)
  | [], _ => []
  | _, [] => []
  | b :: bs, x :: t => (if b then x else none) :: mv_mask bs t
theorem mv_mask_get : ∀ (bs : List Bool) (L : List (Option mvV)) (i : Nat) (v : mvV), (mv_mask bs L)[i]? = some (some v) → L[i]? = some (some v)
  | [], L, i, v, h => by simp [mv_mask] at h
  | b :: bs, [], i, v, h => by simp [mv_mask] at h
  | b :: bs, x :: t, 0, v, h => by
    simp only [mv_mask, List.getElem?_cons_zero, Option.some.injEq] at h ⊢
    by_cases hb : b = true
    · rw [if_pos hb] at h; exact h
    · rw [if_neg hb] at h; cases h
  | b :: bs, x :: t, i + 1, v, h => by
    rw [mv_mask, List.getElem?_cons_succ] at h
    rw [List.getElem?_cons_succ]
    exact mv_mask_get bs t i v h
theorem mv_mask_len : ∀ (bs : List Bool) (L : List (Option mvV)), bs.length = L.length → (mv_mask bs L).length = L.length
  | [], [], _ => rfl
  | b :: bs, x :: t, h => by simp only [mv_mask, List.length_cons]; rw [mv_mask_len bs t (by simpa using h)]
/-- the judgement -/
def EV (p : Program) (l : Launch) (e : Env) (R : Room) (s : State) (m : MethodId) (args : Array Value) (below : List Frame) (meth : Method) (c : Code) (D : va_G) (cl : List vw_C) (cI cC : ClassId) (td : Nat → Option Nat) (A : Nat → Prop) (G : (Nat → Nat) → Prop) {ρ : Type} (Q : ρ → State → Prop) (cells slots : Nat) (sh : List mvSh) (L : List (Option mvV)) (st : List mvV) (pc : Nat) (w : mvW) (r : Option ρ) : Prop :=
  ∀ z, r = some z → ∀ (ad : Nat → Nat) (H : Heap) (locs : List Loc) (ls : Array Slot), G ad → mv_lh ls td ad L → va_P D cl (mv_wl cI cC ad w 0 sh) H → va_D A (mv_wl cI cC ad w 0 sh) → va_S A s.heap H locs → W p l e R s m args below meth c H locs cells slots (Q z) (F0 m pc ls (st.map (mv_val td ad)))
/-- what holds through a method -/
def mv_X (p : Program) (s : State) (m : MethodId) (args : Array Value) (meth : Method) (c : Code) (D : va_G) (cl : List vw_C) (cI cC : ClassId) (tb : mvTb) (td : Nat → Option Nat) (A : Nat → Prop) (cc : ByteArray) (nL : Nat) (own : String) (Ts : List Cond) : Prop :=
  p.tables.exec = Jvm.exec ∧ c.code = cc ∧ c.maxLocals = nL ∧ s.vm.findClass own = some m.cls ∧ (∀ w ∈ Ts, w.before args s = true) ∧ (∀ q, s.heap.size ≤ q → A q) ∧ va_K D cl [(cI, .int), (cC, .char)] s ∧ mv_St tb td A s s.heap ∧ meth.locks = false
section MV
variable {p : Program} {l : Launch} {e : Env} {R : Room} {s : State} {m : MethodId} {args : Array Value} {below : List Frame} {meth : Method} {c : Code} {D : va_G} {cl : List vw_C} {cI cC : ClassId} {tb : mvTb} {td : Nat → Option Nat} {A : Nat → Prop} {G : (Nat → Nat) → Prop} {ρ : Type} {Q : ρ → State → Prop} {cells slots : Nat} {sh : List mvSh} {L : List (Option mvV)} {st : List mvV} {pc : Nat} {w : mvW} {r r1 r2 : Option ρ} {cc : ByteArray} {nL : Nat} {own : String} {Ts : List Cond}
theorem mv_X.x (h : mv_X p s m args meth c D cl cI cC tb td A cc nL own Ts) : p.tables.exec = Jvm.exec := h.1
theorem mv_X.b (h : mv_X p s m args meth c D cl cI cC tb td A cc nL own Ts) : c.code = cc := h.2.1
theorem mv_X.ml (h : mv_X p s m args meth c D cl cI cC tb td A cc nL own Ts) : c.maxLocals = nL := h.2.2.1
theorem mv_X.o (h : mv_X p s m args meth c D cl cI cC tb td A cc nL own Ts) : s.vm.findClass own = some m.cls := h.2.2.2.1
theorem mv_X.ts (h : mv_X p s m args meth c D cl cI cC tb td A cc nL own Ts) : ∀ w ∈ Ts, w.before args s = true := h.2.2.2.2.1
theorem mv_X.nw (h : mv_X p s m args meth c D cl cI cC tb td A cc nL own Ts) : ∀ q, s.heap.size ≤ q → A q := h.2.2.2.2.2.1
theorem mv_X.k (h : mv_X p s m args meth c D cl cI cC tb td A cc nL own Ts) : va_K D cl [(cI, .int), (cC, .char)] s := h.2.2.2.2.2.2.1
theorem mv_X.sta (h : mv_X p s m args meth c D cl cI cC tb td A cc nL own Ts) : mv_St tb td A s s.heap := h.2.2.2.2.2.2.2.1
theorem mv_X.lk (h : mv_X p s m args meth c D cl cI cC tb td A cc nL own Ts) : meth.locks = false := h.2.2.2.2.2.2.2.2
theorem ev_none : EV p l e R s m args below meth c D cl cI cC td A G Q cells slots sh L st pc w none := fun z h => by cases h
theorem ev_eq (h : r = r1) (k : EV p l e R s m args below meth c D cl cI cC td A G Q cells slots sh L st pc w r1) : EV p l e R s m args below meth c D cl cI cC td A G Q cells slots sh L st pc w r := h ▸ k
theorem ev_mask (bs : List Bool) {L' : List (Option mvV)} (hlen : bs.length = L.length) (hL : mv_mask bs L = L') (k : EV p l e R s m args below meth c D cl cI cC td A G Q cells slots sh L' st pc w r) : EV p l e R s m args below meth c D cl cI cC td A G Q cells slots sh L st pc w r := fun z hz ad H locs ls hG hl hP hD hS => k z hz ad H locs ls hG ⟨by rw [hl.1, ← hL, mv_mask_len bs L hlen], hl.2.1, fun i v h => hl.2.2 i v (mv_mask_get bs L i v (by rw [hL]; exact h))⟩ hP hD hS
theorem ev_iload_n (hX : mv_X p s m args meth c D cl cI cC tb td A cc nL own Ts) {i : Fin 4} {x : Int32} (hd : decode cc pc = .ok (.iload_n i, 1)) (hl0 : L[(i : Nat)]? = some (some (.inl x))) (k : EV p l e R s m args below meth c D cl cI cC td A G Q cells slots sh L (.inl x :: st) (pc + 1) w r) : EV p l e R s m args below meth c D cl cI cC td A G Q cells slots sh L st pc w r := fun z hz ad H locs ls hG hl hP hD hS => lv_iload_n hX.x hX.b hd rfl (hl.2.2 _ _ hl0) (k z hz ad H locs ls hG hl hP hD hS)
theorem ev_iload (hX : mv_X p s m args meth c D cl cI cC tb td A cc nL own Ts) {i : Nat} {x : Int32} (hd : decode cc pc = .ok (.iload i, 2)) (hl0 : L[i]? = some (some (.inl x))) (k : EV p l e R s m args below meth c D cl cI cC td A G Q cells slots sh L (.inl x :: st) (pc + 2) w r) : EV p l e R s m args below meth c D cl cI cC td A G Q cells slots sh L st pc w r := fun z hz ad H locs ls hG hl hP hD hS => lv_iload hX.x hX.b hd (hl.2.2 _ _ hl0) (k z hz ad H locs ls hG hl hP hD hS)
theorem ev_aload_n (hX : mv_X p s m args meth c D cl cI cC tb td A cc nL own Ts) {i : Fin 4} {x : Nat} (hd : decode cc pc = .ok (.aload_n i, 1)) (hl0 : L[(i : Nat)]? = some (some (.inr (.inl x)))) (k : EV p l e R s m args below meth c D cl cI cC td A G Q cells slots sh L (.inr (.inl x) :: st) (pc + 1) w r) : EV p l e R s m args below meth c D cl cI cC td A G Q cells slots sh L st pc w r := fun z hz ad H locs ls hG hl hP hD hS => by
  exact lv_aload_n hX.x hX.b hd rfl (hl.2.2 _ _ hl0) (k z hz ad H locs ls hG hl hP hD hS)
theorem ev_istore_n (hX : mv_X p s m args meth c D cl cI cC tb td A cc nL own Ts) {i : Fin 4} {x : Int32} {L' : List (Option mvV)} (hd : decode cc pc = .ok (.istore_n i, 1)) (hi : Nat.ble ((i : Nat) + 1) L.length = true) (hL : L.set (i : Nat) (some (.inl x)) = L') (k : EV p l e R s m args below meth c D cl cI cC td A G Q cells slots sh L' st (pc + 1) w r) : EV p l e R s m args below meth c D cl cI cC td A G Q cells slots sh L (.inl x :: st) pc w r := fun z hz ad H locs ls hG hl hP hD hS =>
  lv_istore_n hX.x hX.b hd rfl hl.has (Nat.le_of_ble_eq_true hi) rfl (fun ls' h => k z hz ad H locs ls' hG (hL ▸ mv_lh.set (x := .inl x) h) hP hD hS)
theorem ev_istore (hX : mv_X p s m args meth c D cl cI cC tb td A cc nL own Ts) {i : Nat} {x : Int32} {L' : List (Option mvV)} (hd : decode cc pc = .ok (.istore i, 2)) (hi : Nat.ble (i + 1) L.length = true) (hL : L.set i (some (.inl x)) = L') (k : EV p l e R s m args below meth c D cl cI cC td A G Q cells slots sh L' st (pc + 2) w r) : EV p l e R s m args below meth c D cl cI cC td A G Q cells slots sh L (.inl x :: st) pc w r := fun z hz ad H locs ls hG hl hP hD hS =>
  lv_istore hX.x hX.b hd hl.has (Nat.le_of_ble_eq_true hi) rfl (fun ls' h => k z hz ad H locs ls' hG (hL ▸ mv_lh.set (x := .inl x) h) hP hD hS)
theorem ev_iinc (hX : mv_X p s m args meth c D cl cI cC tb td A cc nL own Ts) {i : Nat} {n : Int} {x v : Int32} {L' : List (Option mvV)} (hd : decode cc pc = .ok (.iinc i n, 3)) (hl0 : L[i]? = some (some (.inl x))) (hv : Int32.ofInt n = v) (hL : L.set i (some (.inl (x + v))) = L') (k : EV p l e R s m args below meth c D cl cI cC td A G Q cells slots sh L' st (pc + 3) w r) : EV p l e R s m args below meth c D cl cI cC td A G Q cells slots sh L st pc w r := fun z hz ad H locs ls hG hl hP hD hS => by
  obtain ⟨q, hq⟩ := List.getElem?_of_mem (mv_la_mem (td := td) (ad := ad) hl0)
  exact lv_iinc hX.x hX.b hd hl.has hq (by rw [hv]) (List.getElem?_eq_some_iff.mp hl0).1 rfl (fun ls' h => k z hz ad H locs ls' hG (hL ▸ mv_lh.set (x := .inl (x + v)) h) hP hD hS)
theorem ev_iconst (hX : mv_X p s m args meth c D cl cI cC tb td A cc nL own Ts) {n : Int} {v : Int32} (hd : decode cc pc = .ok (.iconst n, 1)) (hv : Int32.ofInt n = v) (k : EV p l e R s m args below meth c D cl cI cC td A G Q cells slots sh L (.inl v :: st) (pc + 1) w r) : EV p l e R s m args below meth c D cl cI cC td A G Q cells slots sh L st pc w r := fun z hz ad H locs ls hG hl hP hD hS => lv_iconst hX.x hX.b hd hv (k z hz ad H locs ls hG hl hP hD hS)
theorem ev_bipush (hX : mv_X p s m args meth c D cl cI cC tb td A cc nL own Ts) {n : Int} {v : Int32} (hd : decode cc pc = .ok (.bipush n, 2)) (hv : (Int8.ofInt n).toInt32 = v) (k : EV p l e R s m args below meth c D cl cI cC td A G Q cells slots sh L (.inl v :: st) (pc + 2) w r) : EV p l e R s m args below meth c D cl cI cC td A G Q cells slots sh L st pc w r := fun z hz ad H locs ls hG hl hP hD hS => lv_bipush hX.x hX.b hd hv (k z hz ad H locs ls hG hl hP hD hS)
theorem ev_sipush (hX : mv_X p s m args meth c D cl cI cC tb td A cc nL own Ts) {n : Int} {v : Int32} (hd : decode cc pc = .ok (.sipush n, 3)) (hv : (Int16.ofInt n).toInt32 = v) (k : EV p l e R s m args below meth c D cl cI cC td A G Q cells slots sh L (.inl v :: st) (pc + 3) w r) : EV p l e R s m args below meth c D cl cI cC td A G Q cells slots sh L st pc w r := fun z hz ad H locs ls hG hl hP hD hS => lv_sipush hX.x hX.b hd hv (k z hz ad H locs ls hG hl hP hD hS)
theorem ev_ldc (hX : mv_X p s m args meth c D cl cI cC tb td A cc nL own Ts) {index : Nat} {v : Int32} (hd : decode cc pc = .ok (.ldc index, 2)) (hc : Cond.constant own index v ∈ Ts) (k : EV p l e R s m args below meth c D cl cI cC td A G Q cells slots sh L (.inl v :: st) (pc + 2) w r) : EV p l e R s m args below meth c D cl cI cC td A G Q cells slots sh L st pc w r := fun z hz ad H locs ls hG hl hP hD hS => lv_ldc hX.x hX.b hX.o (hX.ts _ hc) hd (k z hz ad H locs ls hG hl hP hD hS)
theorem ev_goto (hX : mv_X p s m args meth c D cl cI cC tb td A cc nL own Ts) {off : Int} {tgt : Nat} (hd : decode cc pc = .ok (.goto off, 3)) (ht : (pc : Int) + off = (tgt : Int)) (k : EV p l e R s m args below meth c D cl cI cC td A G Q cells slots sh L st tgt w r) : EV p l e R s m args below meth c D cl cI cC td A G Q cells slots sh L st pc w r := fun z hz ad H locs ls hG hl hP hD hS => lv_goto hX.x hX.b hd ht (k z hz ad H locs ls hG hl hP hD hS)
theorem ev_ifnull (hX : mv_X p s m args meth c D cl cI cC tb td A cc nL own Ts) {off : Int} {x : Nat} (hd : decode cc pc = .ok (.ifnull off, 3)) (k : EV p l e R s m args below meth c D cl cI cC td A G Q cells slots sh L st (pc + 3) w r) : EV p l e R s m args below meth c D cl cI cC td A G Q cells slots sh L (mvC x :: st) pc w r := fun z hz ad H locs ls hG hl hP hD hS => lv_ifnull hX.x hX.b hd (k z hz ad H locs ls hG hl hP hD hS)
theorem ev_pop (hX : mv_X p s m args meth c D cl cI cC tb td A cc nL own Ts) {v : mvV} (hd : decode cc pc = .ok (.pop, 1)) (k : EV p l e R s m args below meth c D cl cI cC td A G Q cells slots sh L st (pc + 1) w r) : EV p l e R s m args below meth c D cl cI cC td A G Q cells slots sh L (v :: st) pc w r := fun z hz ad H locs ls hG hl hP hD hS => lv_pop hX.x hX.b hd (mv_cat td ad v) (k z hz ad H locs ls hG hl hP hD hS)
theorem ev_dup (hX : mv_X p s m args meth c D cl cI cC tb td A cc nL own Ts) {v : mvV} (hd : decode cc pc = .ok (.dup, 1)) (k : EV p l e R s m args below meth c D cl cI cC td A G Q cells slots sh L (v :: v :: st) (pc + 1) w r) : EV p l e R s m args below meth c D cl cI cC td A G Q cells slots sh L (v :: st) pc w r := fun z hz ad H locs ls hG hl hP hD hS => lv_dup hX.x hX.b hd (mv_cat td ad v) (k z hz ad H locs ls hG hl hP hD hS)
theorem ev_dup2 (hX : mv_X p s m args meth c D cl cI cC tb td A cc nL own Ts) {v u : mvV} (hd : decode cc pc = .ok (.dup2, 1)) (k : EV p l e R s m args below meth c D cl cI cC td A G Q cells slots sh L (v :: u :: v :: u :: st) (pc + 1) w r) : EV p l e R s m args below meth c D cl cI cC td A G Q cells slots sh L (v :: u :: st) pc w r := fun z hz ad H locs ls hG hl hP hD hS => lv_dup2_11 hX.x hX.b hd (mv_cat td ad v) (mv_cat td ad u) (k z hz ad H locs ls hG hl hP hD hS)
theorem ev_iadd (hX : mv_X p s m args meth c D cl cI cC tb td A cc nL own Ts) {x y : Int32} (hd : decode cc pc = .ok (.iadd, 1)) (k : EV p l e R s m args below meth c D cl cI cC td A G Q cells slots sh L (.inl (x + y) :: st) (pc + 1) w r) : EV p l e R s m args below meth c D cl cI cC td A G Q cells slots sh L (.inl y :: .inl x :: st) pc w r := fun z hz ad H locs ls hG hl hP hD hS => lv_iadd hX.x hX.b hd (k z hz ad H locs ls hG hl hP hD hS)
theorem ev_isub (hX : mv_X p s m args meth c D cl cI cC tb td A cc nL own Ts) {x y : Int32} (hd : decode cc pc = .ok (.isub, 1)) (k : EV p l e R s m args below meth c D cl cI cC td A G Q cells slots sh L (.inl (x - y) :: st) (pc + 1) w r) : EV p l e R s m args below meth c D cl cI cC td A G Q cells slots sh L (.inl y :: .inl x :: st) pc w r := fun z hz ad H locs ls hG hl hP hD hS => lv_isub hX.x hX.b hd (k z hz ad H locs ls hG hl hP hD hS)
theorem ev_imul (hX : mv_X p s m args meth c D cl cI cC tb td A cc nL own Ts) {x y : Int32} (hd : decode cc pc = .ok (.imul, 1)) (k : EV p l e R s m args below meth c D cl cI cC td A G Q cells slots sh L (.inl (x * y) :: st) (pc + 1) w r) : EV p l e R s m args below meth c D cl cI cC td A G Q cells slots sh L (.inl y :: .inl x :: st) pc w r := fun z hz ad H locs ls hG hl hP hD hS => lv_imul hX.x hX.b hd (k z hz ad H locs ls hG hl hP hD hS)
theorem ev_iand (hX : mv_X p s m args meth c D cl cI cC tb td A cc nL own Ts) {x y : Int32} (hd : decode cc pc = .ok (.iand, 1)) (k : EV p l e R s m args below meth c D cl cI cC td A G Q cells slots sh L (.inl (x &&& y) :: st) (pc + 1) w r) : EV p l e R s m args below meth c D cl cI cC td A G Q cells slots sh L (.inl y :: .inl x :: st) pc w r := fun z hz ad H locs ls hG hl hP hD hS => lv_iand hX.x hX.b hd (k z hz ad H locs ls hG hl hP hD hS)
theorem ev_ior (hX : mv_X p s m args meth c D cl cI cC tb td A cc nL own Ts) {x y : Int32} (hd : decode cc pc = .ok (.ior, 1)) (k : EV p l e R s m args below meth c D cl cI cC td A G Q cells slots sh L (.inl (x ||| y) :: st) (pc + 1) w r) : EV p l e R s m args below meth c D cl cI cC td A G Q cells slots sh L (.inl y :: .inl x :: st) pc w r := fun z hz ad H locs ls hG hl hP hD hS => lv_ior hX.x hX.b hd (k z hz ad H locs ls hG hl hP hD hS)
theorem ev_ixor (hX : mv_X p s m args meth c D cl cI cC tb td A cc nL own Ts) {x y : Int32} (hd : decode cc pc = .ok (.ixor, 1)) (k : EV p l e R s m args below meth c D cl cI cC td A G Q cells slots sh L (.inl (x ^^^ y) :: st) (pc + 1) w r) : EV p l e R s m args below meth c D cl cI cC td A G Q cells slots sh L (.inl y :: .inl x :: st) pc w r := fun z hz ad H locs ls hG hl hP hD hS => lv_ixor hX.x hX.b hd (k z hz ad H locs ls hG hl hP hD hS)
theorem ev_ishl (hX : mv_X p s m args meth c D cl cI cC tb td A cc nL own Ts) {x y : Int32} (hd : decode cc pc = .ok (.ishl, 1)) (k : EV p l e R s m args below meth c D cl cI cC td A G Q cells slots sh L (.inl (x <<< (y &&& 31)) :: st) (pc + 1) w r) : EV p l e R s m args below meth c D cl cI cC td A G Q cells slots sh L (.inl y :: .inl x :: st) pc w r := fun z hz ad H locs ls hG hl hP hD hS => lv_ishl hX.x hX.b hd (k z hz ad H locs ls hG hl hP hD hS)
theorem ev_ishr (hX : mv_X p s m args meth c D cl cI cC tb td A cc nL own Ts) {x y : Int32} (hd : decode cc pc = .ok (.ishr, 1)) (k : EV p l e R s m args below meth c D cl cI cC td A G Q cells slots sh L (.inl (x >>> (y &&& 31)) :: st) (pc + 1) w r) : EV p l e R s m args below meth c D cl cI cC td A G Q cells slots sh L (.inl y :: .inl x :: st) pc w r := fun z hz ad H locs ls hG hl hP hD hS => lv_ishr hX.x hX.b hd (k z hz ad H locs ls hG hl hP hD hS)
theorem ev_idiv (hX : mv_X p s m args meth c D cl cI cC tb td A cc nL own Ts) {x y : Int32} (hd : decode cc pc = .ok (.idiv, 1)) (hne : ¬ y = 0) (k : EV p l e R s m args below meth c D cl cI cC td A G Q cells slots sh L (.inl (x / y) :: st) (pc + 1) w r) : EV p l e R s m args below meth c D cl cI cC td A G Q cells slots sh L (.inl y :: .inl x :: st) pc w r := fun z hz ad H locs ls hG hl hP hD hS => lv_idiv hX.x hX.b hd hne (k z hz ad H locs ls hG hl hP hD hS)
theorem ev_irem (hX : mv_X p s m args meth c D cl cI cC tb td A cc nL own Ts) {x y : Int32} (hd : decode cc pc = .ok (.irem, 1)) (hne : ¬ y = 0) (k : EV p l e R s m args below meth c D cl cI cC td A G Q cells slots sh L (.inl (x - x / y * y) :: st) (pc + 1) w r) : EV p l e R s m args below meth c D cl cI cC td A G Q cells slots sh L (.inl y :: .inl x :: st) pc w r := fun z hz ad H locs ls hG hl hP hD hS => lv_irem hX.x hX.b hd hne (k z hz ad H locs ls hG hl hP hD hS)
theorem ev_ineg (hX : mv_X p s m args meth c D cl cI cC tb td A cc nL own Ts) {x : Int32} (hd : decode cc pc = .ok (.ineg, 1)) (k : EV p l e R s m args below meth c D cl cI cC td A G Q cells slots sh L (.inl (-x) :: st) (pc + 1) w r) : EV p l e R s m args below meth c D cl cI cC td A G Q cells slots sh L (.inl x :: st) pc w r := fun z hz ad H locs ls hG hl hP hD hS => lv_ineg hX.x hX.b hd (k z hz ad H locs ls hG hl hP hD hS)
theorem ev_i2c (hX : mv_X p s m args meth c D cl cI cC tb td A cc nL own Ts) {x : Int32} (hd : decode cc pc = .ok (.i2c, 1)) (k : EV p l e R s m args below meth c D cl cI cC td A G Q cells slots sh L (.inl ((x.toUInt32 % 65536).toInt32) :: st) (pc + 1) w r) : EV p l e R s m args below meth c D cl cI cC td A G Q cells slots sh L (.inl x :: st) pc w r := fun z hz ad H locs ls hG hl hP hD hS => lv_i2c hX.x hX.b hd rfl (k z hz ad H locs ls hG hl hP hD hS)
theorem ev_if_eq (hX : mv_X p s m args meth c D cl cI cC tb td A cc nL own Ts) {x : Int32} {off : Int} {tgt : Nat} (hd : decode cc pc = .ok (.ifCond .eq off, 3)) (ht : (pc : Int) + off = (tgt : Int)) (k1 : EV p l e R s m args below meth c D cl cI cC td A G Q cells slots sh L st tgt w r1) (k2 : EV p l e R s m args below meth c D cl cI cC td A G Q cells slots sh L st (pc + 3) w r2) : EV p l e R s m args below meth c D cl cI cC td A G Q cells slots sh L (.inl x :: st) pc w (if x = 0 then r1 else r2) := fun z hz ad H locs ls hG hl hP hD hS => lv_if_eq hX.x hX.b hd ht (fun h => k1 z (by first | (rw [if_pos h] at hz; exact hz) | (rw [if_neg h] at hz; exact hz)) ad H locs ls hG hl hP hD hS) (fun h => k2 z (by first | (rw [if_neg h] at hz; exact hz) | (rw [if_pos (Decidable.not_not.mp h)] at hz; exact hz) | (rw [if_neg (not_not_intro h)] at hz; exact hz)) ad H locs ls hG hl hP hD hS)
theorem ev_icmp_eq (hX : mv_X p s m args meth c D cl cI cC tb td A cc nL own Ts) {x y : Int32} {off : Int} {tgt : Nat} (hd : decode cc pc = .ok (.if_icmp .eq off, 3)) (ht : (pc : Int) + off = (tgt : Int)) (k1 : EV p l e R s m args below meth c D cl cI cC td A G Q cells slots sh L st tgt w r1) (k2 : EV p l e R s m args below meth c D cl cI cC td A G Q cells slots sh L st (pc + 3) w r2) : EV p l e R s m args below meth c D cl cI cC td A G Q cells slots sh L (.inl y :: .inl x :: st) pc w (if x = y then r1 else r2) := fun z hz ad H locs ls hG hl hP hD hS => lv_icmp_eq hX.x hX.b hd ht (fun h => k1 z (by first | (rw [if_pos h] at hz; exact hz) | (rw [if_neg h] at hz; exact hz)) ad H locs ls hG hl hP hD hS) (fun h => k2 z (by first | (rw [if_neg h] at hz; exact hz) | (rw [if_pos (Decidable.not_not.mp h)] at hz; exact hz) | (rw [if_neg (not_not_intro h)] at hz; exact hz)) ad H locs ls hG hl hP hD hS)
theorem ev_if_ne (hX : mv_X p s m args meth c D cl cI cC tb td A cc nL own Ts) {x : Int32} {off : Int} {tgt : Nat} (hd : decode cc pc = .ok (.ifCond .ne off, 3)) (ht : (pc : Int) + off = (tgt : Int)) (k1 : EV p l e R s m args below meth c D cl cI cC td A G Q cells slots sh L st tgt w r1) (k2 : EV p l e R s m args below meth c D cl cI cC td A G Q cells slots sh L st (pc + 3) w r2) : EV p l e R s m args below meth c D cl cI cC td A G Q cells slots sh L (.inl x :: st) pc w (if ¬ x = 0 then r1 else r2) := fun z hz ad H locs ls hG hl hP hD hS => lv_if_ne hX.x hX.b hd ht (fun h => k1 z (by first | (rw [if_pos h] at hz; exact hz) | (rw [if_neg h] at hz; exact hz)) ad H locs ls hG hl hP hD hS) (fun h => k2 z (by first | (rw [if_neg h] at hz; exact hz) | (rw [if_pos (Decidable.not_not.mp h)] at hz; exact hz) | (rw [if_neg (not_not_intro h)] at hz; exact hz)) ad H locs ls hG hl hP hD hS)
theorem ev_icmp_ne (hX : mv_X p s m args meth c D cl cI cC tb td A cc nL own Ts) {x y : Int32} {off : Int} {tgt : Nat} (hd : decode cc pc = .ok (.if_icmp .ne off, 3)) (ht : (pc : Int) + off = (tgt : Int)) (k1 : EV p l e R s m args below meth c D cl cI cC td A G Q cells slots sh L st tgt w r1) (k2 : EV p l e R s m args below meth c D cl cI cC td A G Q cells slots sh L st (pc + 3) w r2) : EV p l e R s m args below meth c D cl cI cC td A G Q cells slots sh L (.inl y :: .inl x :: st) pc w (if ¬ x = y then r1 else r2) := fun z hz ad H locs ls hG hl hP hD hS => lv_icmp_ne hX.x hX.b hd ht (fun h => k1 z (by first | (rw [if_pos h] at hz; exact hz) | (rw [if_neg h] at hz; exact hz)) ad H locs ls hG hl hP hD hS) (fun h => k2 z (by first | (rw [if_neg h] at hz; exact hz) | (rw [if_pos (Decidable.not_not.mp h)] at hz; exact hz) | (rw [if_neg (not_not_intro h)] at hz; exact hz)) ad H locs ls hG hl hP hD hS)
theorem ev_if_lt (hX : mv_X p s m args meth c D cl cI cC tb td A cc nL own Ts) {x : Int32} {off : Int} {tgt : Nat} (hd : decode cc pc = .ok (.ifCond .lt off, 3)) (ht : (pc : Int) + off = (tgt : Int)) (k1 : EV p l e R s m args below meth c D cl cI cC td A G Q cells slots sh L st tgt w r1) (k2 : EV p l e R s m args below meth c D cl cI cC td A G Q cells slots sh L st (pc + 3) w r2) : EV p l e R s m args below meth c D cl cI cC td A G Q cells slots sh L (.inl x :: st) pc w (if x < 0 then r1 else r2) := fun z hz ad H locs ls hG hl hP hD hS => lv_if_lt hX.x hX.b hd ht (fun h => k1 z (by first | (rw [if_pos h] at hz; exact hz) | (rw [if_neg h] at hz; exact hz)) ad H locs ls hG hl hP hD hS) (fun h => k2 z (by first | (rw [if_neg h] at hz; exact hz) | (rw [if_pos (Decidable.not_not.mp h)] at hz; exact hz) | (rw [if_neg (not_not_intro h)] at hz; exact hz)) ad H locs ls hG hl hP hD hS)
theorem ev_icmp_lt (hX : mv_X p s m args meth c D cl cI cC tb td A cc nL own Ts) {x y : Int32} {off : Int} {tgt : Nat} (hd : decode cc pc = .ok (.if_icmp .lt off, 3)) (ht : (pc : Int) + off = (tgt : Int)) (k1 : EV p l e R s m args below meth c D cl cI cC td A G Q cells slots sh L st tgt w r1) (k2 : EV p l e R s m args below meth c D cl cI cC td A G Q cells slots sh L st (pc + 3) w r2) : EV p l e R s m args below meth c D cl cI cC td A G Q cells slots sh L (.inl y :: .inl x :: st) pc w (if x < y then r1 else r2) := fun z hz ad H locs ls hG hl hP hD hS => lv_icmp_lt hX.x hX.b hd ht (fun h => k1 z (by first | (rw [if_pos h] at hz; exact hz) | (rw [if_neg h] at hz; exact hz)) ad H locs ls hG hl hP hD hS) (fun h => k2 z (by first | (rw [if_neg h] at hz; exact hz) | (rw [if_pos (Decidable.not_not.mp h)] at hz; exact hz) | (rw [if_neg (not_not_intro h)] at hz; exact hz)) ad H locs ls hG hl hP hD hS)
theorem ev_if_ge (hX : mv_X p s m args meth c D cl cI cC tb td A cc nL own Ts) {x : Int32} {off : Int} {tgt : Nat} (hd : decode cc pc = .ok (.ifCond .ge off, 3)) (ht : (pc : Int) + off = (tgt : Int)) (k1 : EV p l e R s m args below meth c D cl cI cC td A G Q cells slots sh L st tgt w r1) (k2 : EV p l e R s m args below meth c D cl cI cC td A G Q cells slots sh L st (pc + 3) w r2) : EV p l e R s m args below meth c D cl cI cC td A G Q cells slots sh L (.inl x :: st) pc w (if 0 ≤ x then r1 else r2) := fun z hz ad H locs ls hG hl hP hD hS => lv_if_ge hX.x hX.b hd ht (fun h => k1 z (by first | (rw [if_pos h] at hz; exact hz) | (rw [if_neg h] at hz; exact hz)) ad H locs ls hG hl hP hD hS) (fun h => k2 z (by first | (rw [if_neg h] at hz; exact hz) | (rw [if_pos (Decidable.not_not.mp h)] at hz; exact hz) | (rw [if_neg (not_not_intro h)] at hz; exact hz)) ad H locs ls hG hl hP hD hS)
theorem ev_icmp_ge (hX : mv_X p s m args meth c D cl cI cC tb td A cc nL own Ts) {x y : Int32} {off : Int} {tgt : Nat} (hd : decode cc pc = .ok (.if_icmp .ge off, 3)) (ht : (pc : Int) + off = (tgt : Int)) (k1 : EV p l e R s m args below meth c D cl cI cC td A G Q cells slots sh L st tgt w r1) (k2 : EV p l e R s m args below meth c D cl cI cC td A G Q cells slots sh L st (pc + 3) w r2) : EV p l e R s m args below meth c D cl cI cC td A G Q cells slots sh L (.inl y :: .inl x :: st) pc w (if y ≤ x then r1 else r2) := fun z hz ad H locs ls hG hl hP hD hS => lv_icmp_ge hX.x hX.b hd ht (fun h => k1 z (by first | (rw [if_pos h] at hz; exact hz) | (rw [if_neg h] at hz; exact hz)) ad H locs ls hG hl hP hD hS) (fun h => k2 z (by first | (rw [if_neg h] at hz; exact hz) | (rw [if_pos (Decidable.not_not.mp h)] at hz; exact hz) | (rw [if_neg (not_not_intro h)] at hz; exact hz)) ad H locs ls hG hl hP hD hS)
theorem ev_if_gt (hX : mv_X p s m args meth c D cl cI cC tb td A cc nL own Ts) {x : Int32} {off : Int} {tgt : Nat} (hd : decode cc pc = .ok (.ifCond .gt off, 3)) (ht : (pc : Int) + off = (tgt : Int)) (k1 : EV p l e R s m args below meth c D cl cI cC td A G Q cells slots sh L st tgt w r1) (k2 : EV p l e R s m args below meth c D cl cI cC td A G Q cells slots sh L st (pc + 3) w r2) : EV p l e R s m args below meth c D cl cI cC td A G Q cells slots sh L (.inl x :: st) pc w (if 0 < x then r1 else r2) := fun z hz ad H locs ls hG hl hP hD hS => lv_if_gt hX.x hX.b hd ht (fun h => k1 z (by first | (rw [if_pos h] at hz; exact hz) | (rw [if_neg h] at hz; exact hz)) ad H locs ls hG hl hP hD hS) (fun h => k2 z (by first | (rw [if_neg h] at hz; exact hz) | (rw [if_pos (Decidable.not_not.mp h)] at hz; exact hz) | (rw [if_neg (not_not_intro h)] at hz; exact hz)) ad H locs ls hG hl hP hD hS)
theorem ev_icmp_gt (hX : mv_X p s m args meth c D cl cI cC tb td A cc nL own Ts) {x y : Int32} {off : Int} {tgt : Nat} (hd : decode cc pc = .ok (.if_icmp .gt off, 3)) (ht : (pc : Int) + off = (tgt : Int)) (k1 : EV p l e R s m args below meth c D cl cI cC td A G Q cells slots sh L st tgt w r1) (k2 : EV p l e R s m args below meth c D cl cI cC td A G Q cells slots sh L st (pc + 3) w r2) : EV p l e R s m args below meth c D cl cI cC td A G Q cells slots sh L (.inl y :: .inl x :: st) pc w (if y < x then r1 else r2) := fun z hz ad H locs ls hG hl hP hD hS => lv_icmp_gt hX.x hX.b hd ht (fun h => k1 z (by first | (rw [if_pos h] at hz; exact hz) | (rw [if_neg h] at hz; exact hz)) ad H locs ls hG hl hP hD hS) (fun h => k2 z (by first | (rw [if_neg h] at hz; exact hz) | (rw [if_pos (Decidable.not_not.mp h)] at hz; exact hz) | (rw [if_neg (not_not_intro h)] at hz; exact hz)) ad H locs ls hG hl hP hD hS)
theorem ev_if_le (hX : mv_X p s m args meth c D cl cI cC tb td A cc nL own Ts) {x : Int32} {off : Int} {tgt : Nat} (hd : decode cc pc = .ok (.ifCond .le off, 3)) (ht : (pc : Int) + off = (tgt : Int)) (k1 : EV p l e R s m args below meth c D cl cI cC td A G Q cells slots sh L st tgt w r1) (k2 : EV p l e R s m args below meth c D cl cI cC td A G Q cells slots sh L st (pc + 3) w r2) : EV p l e R s m args below meth c D cl cI cC td A G Q cells slots sh L (.inl x :: st) pc w (if x ≤ 0 then r1 else r2) := fun z hz ad H locs ls hG hl hP hD hS => lv_if_le hX.x hX.b hd ht (fun h => k1 z (by first | (rw [if_pos h] at hz; exact hz) | (rw [if_neg h] at hz; exact hz)) ad H locs ls hG hl hP hD hS) (fun h => k2 z (by first | (rw [if_neg h] at hz; exact hz) | (rw [if_pos (Decidable.not_not.mp h)] at hz; exact hz) | (rw [if_neg (not_not_intro h)] at hz; exact hz)) ad H locs ls hG hl hP hD hS)
theorem ev_icmp_le (hX : mv_X p s m args meth c D cl cI cC tb td A cc nL own Ts) {x y : Int32} {off : Int} {tgt : Nat} (hd : decode cc pc = .ok (.if_icmp .le off, 3)) (ht : (pc : Int) + off = (tgt : Int)) (k1 : EV p l e R s m args below meth c D cl cI cC td A G Q cells slots sh L st tgt w r1) (k2 : EV p l e R s m args below meth c D cl cI cC td A G Q cells slots sh L st (pc + 3) w r2) : EV p l e R s m args below meth c D cl cI cC td A G Q cells slots sh L (.inl y :: .inl x :: st) pc w (if x ≤ y then r1 else r2) := fun z hz ad H locs ls hG hl hP hD hS => lv_icmp_le hX.x hX.b hd ht (fun h => k1 z (by first | (rw [if_pos h] at hz; exact hz) | (rw [if_neg h] at hz; exact hz)) ad H locs ls hG hl hP hD hS) (fun h => k2 z (by first | (rw [if_neg h] at hz; exact hz) | (rw [if_pos (Decidable.not_not.mp h)] at hz; exact hz) | (rw [if_neg (not_not_intro h)] at hz; exact hz)) ad H locs ls hG hl hP hD hS)
theorem mv_wl_set0 (cI cC : ClassId) (ad : Nat → Nat) (w w' : mvW) {y : mvSh} {sh : List mvSh} {k : Nat} {x : va_E} (h : sh[k]? = some y) (hw : ∀ c, c ≠ k → w' c = w c) (hx : mv_ent cI cC ad (w' k) y = x) : (mv_wl cI cC ad w 0 sh).set k (ad k, x) = mv_wl cI cC ad w' 0 sh := by
  have := mv_wl_set cI cC ad w w' sh 0 k h (fun c hc => hw c (by omega))
  rw [Nat.zero_add] at this
  rw [← hx]; exact this
theorem mv_up_ne (w : mvW) (k i : Nat) (x : Int32) {c : Nat} (h : c ≠ k) : mv_up w k i x c = w c := by simp [mv_up, h]
theorem mv_up_eq (w : mvW) (k i : Nat) (x : Int32) : mv_up w k i x k = upd (w k) i x := by simp [mv_up]
theorem ev_get (hX : mv_X p s m args meth c D cl cI cC tb td A cc nL own Ts) {k0 ci k index N : Nat} {fs : List (Option (Option Nat))} {C : String} {T : u_T} (hin : ∀ w ∈ u_ws C T N, w ∈ Ts) (hs : sh[k0]? = some (.inr (ci, fs))) (hc : cl[ci]? = some (C, T, N)) (hk : Nat.ble (k + 1) N = true) (hlink : Cond.fieldLink own index (T k).1 (T k).2.1 (T k).2.2.1 ∈ Ts) (hv : fs[k]? = some none) (hd : decode cc pc = .ok (.getfield index, 3)) (kk : EV p l e R s m args below meth c D cl cI cC td A G Q cells slots sh L (.inl (w k0 k) :: st) (pc + 3) w r) : EV p l e R s m args below meth c D cl cI cC td A G Q cells slots sh L (mvC k0 :: st) pc w r := fun z hz ad H locs ls hG hl hP hD hS =>
  va_get hX.x hX.b hX.ts hin hX.o hX.k hP k0 (mv_wl_at cI cC ad w hs) hc k (Nat.le_of_ble_eq_true hk) (hX.ts _ hlink) (fun _ h9 => h9) (by rw [mv_fld_get, hv]; simp only [Option.map_some, Nat.zero_add]; rfl) hd (kk z hz ad H locs ls hG hl hP hD hS)
theorem ev_getr (hX : mv_X p s m args meth c D cl cI cC tb td A cc nL own Ts) {k0 ci k index N j : Nat} {fs : List (Option (Option Nat))} {C : String} {T : u_T} (hin : ∀ w ∈ u_ws C T N, w ∈ Ts) (hs : sh[k0]? = some (.inr (ci, fs))) (hc : cl[ci]? = some (C, T, N)) (hk : Nat.ble (k + 1) N = true) (hlink : Cond.fieldLink own index (T k).1 (T k).2.1 (T k).2.2.1 ∈ Ts) (hv : fs[k]? = some (some (some j))) (hd : decode cc pc = .ok (.getfield index, 3)) (kk : EV p l e R s m args below meth c D cl cI cC td A G Q cells slots sh L (mvC j :: st) (pc + 3) w r) : EV p l e R s m args below meth c D cl cI cC td A G Q cells slots sh L (mvC k0 :: st) pc w r := fun z hz ad H locs ls hG hl hP hD hS =>
  va_get hX.x hX.b hX.ts hin hX.o hX.k hP k0 (mv_wl_at cI cC ad w hs) hc k (Nat.le_of_ble_eq_true hk) (hX.ts _ hlink) (fun _ h9 => h9) (by rw [mv_fld_get, hv]; rfl) hd (kk z hz ad H locs ls hG hl hP hD hS)
theorem ev_put (hX : mv_X p s m args meth c D cl cI cC tb td A cc nL own Ts) {k0 ci k index N : Nat} {fs : List (Option (Option Nat))} {C : String} {T : u_T} {x : Int32} {ty : FieldType} (hin : ∀ w ∈ u_ws C T N, w ∈ Ts) (ty0 : Nat → FieldType) (hty : ∀ k, k < N → parseFieldDescriptor (T k).2.2.1 = some (ty0 k)) (hnm : ∀ a, a < N → ∀ b, b < N → a ≠ b → (T a).2.1 ≠ (T b).2.1) (hs : sh[k0]? = some (.inr (ci, fs))) (hc : cl[ci]? = some (C, T, N)) (hk : Nat.ble (k + 1) N = true) (hlink : Cond.fieldLink own index (T k).1 (T k).2.1 (T k).2.2.1 ∈ Ts) (hfin : (T k).2.2.2 = false) (hdt : parseFieldDescriptor (T k).2.2.1 = some ty) (hn : narrow ty (.int x) = .int x) (hfit : fits ty (.int x) = true) (hv : fs[k]? = some none) (hd : decode cc pc = .ok (.putfield index, 3)) (kk : EV p l e R s m args below meth c D cl cI cC td A G Q cells slots sh L st (pc + 3) (mv_up w k0 k x) r) : EV p l e R s m args below meth c D cl cI cC td A G Q cells slots sh L (.inl x :: mvC k0 :: st) pc w r := fun z hz ad H locs ls hG hl hP hD hS => by
  have e : (mv_wl cI cC ad w 0 sh).set k0 (ad k0, .inr (ci, (mv_fld ad (w k0) 0 fs).set k (.int x))) = mv_wl cI cC ad (mv_up w k0 k x) 0 sh := mv_wl_set0 cI cC ad w _ hs (fun c hc => mv_up_ne w k0 k x hc) (by
    rw [mv_up_eq]
    have h := mv_fld_set ad (w k0) x fs 0 k hv
    rw [Nat.zero_add] at h
    rw [h]; rfl)
  exact va_put hX.x hX.b hX.ts hin ty0 hty hnm hX.o hX.k hP hD hS k0 (mv_wl_at cI cC ad w hs) hc k (Nat.le_of_ble_eq_true hk) (hX.ts _ hlink) (fun _ h9 => h9) hfin hdt hn hfit (by rw [mv_fld_len]; exact (List.getElem?_eq_some_iff.mp hv).1) hd (fun H1 locs1 hP1 hD1 hS1 => kk z hz ad H1 locs1 ls hG hl (e ▸ hP1) (e ▸ hD1) hS1)
/-- a place in a row, if it is one -/
def mv_ix (n : Nat) (i : Int32) : Option Nat := if 0 ≤ i.toInt ∧ i.toInt < (n : Int) then some i.toNatClampNeg else none
theorem mv_ix_in {n j : Nat} {i : Int32} (h : mv_ix n i = some j) : vp_in i n ∧ i.toNatClampNeg = j := by
  unfold mv_ix at h
  split at h
  next hc => cases h; exact ⟨vp_in_iff.mpr hc, rfl⟩
  next => cases h
theorem ev_iald (hX : mv_X p s m args meth c D cl cI cC tb td A cc nL own Ts) {k0 n : Nat} {i : Int32} {g : Nat → Option ρ} (hs : sh[k0]? = some (.inl (false, n))) (hd : decode cc pc = .ok (.iaload, 1)) (kk : ∀ j, EV p l e R s m args below meth c D cl cI cC td A G Q cells slots sh L (.inl (w k0 j) :: st) (pc + 1) w (g j)) : EV p l e R s m args below meth c D cl cI cC td A G Q cells slots sh L (.inl i :: mvC k0 :: st) pc w ((mv_ix n i).bind g) := fun z hz ad H locs ls hG hl hP hD hS => by
  obtain ⟨j, hj, hg⟩ := Option.bind_eq_some_iff.mp hz
  obtain ⟨h1, h2⟩ := mv_ix_in hj
  subst h2
  exact va_iald hX.x hX.b hX.k hP k0 0 (mv_wl_at cI cC ad w hs) rfl h1 hd (kk _ z hg ad H locs ls hG hl hP hD hS)
theorem ev_ialdc (hX : mv_X p s m args meth c D cl cI cC tb td A cc nL own Ts) {k0 n j : Nat} {i : Int32} (hs : sh[k0]? = some (.inl (false, n))) (hj : mv_ix n i = some j) (hd : decode cc pc = .ok (.iaload, 1)) (kk : EV p l e R s m args below meth c D cl cI cC td A G Q cells slots sh L (.inl (w k0 j) :: st) (pc + 1) w r) : EV p l e R s m args below meth c D cl cI cC td A G Q cells slots sh L (.inl i :: mvC k0 :: st) pc w r := fun z hz ad H locs ls hG hl hP hD hS => by
  obtain ⟨h1, h2⟩ := mv_ix_in hj
  subst h2
  exact va_iald hX.x hX.b hX.k hP k0 0 (mv_wl_at cI cC ad w hs) rfl h1 hd (kk z hz ad H locs ls hG hl hP hD hS)
theorem ev_cald (hX : mv_X p s m args meth c D cl cI cC tb td A cc nL own Ts) {k0 n : Nat} {i : Int32} {g : Nat → Option ρ} (hs : sh[k0]? = some (.inl (true, n))) (hd : decode cc pc = .ok (.caload, 1)) (kk : ∀ j, EV p l e R s m args below meth c D cl cI cC td A G Q cells slots sh L (.inl (w k0 j) :: st) (pc + 1) w (g j)) : EV p l e R s m args below meth c D cl cI cC td A G Q cells slots sh L (.inl i :: mvC k0 :: st) pc w ((mv_ix n i).bind g) := fun z hz ad H locs ls hG hl hP hD hS => by
  obtain ⟨j, hj, hg⟩ := Option.bind_eq_some_iff.mp hz
  obtain ⟨h1, h2⟩ := mv_ix_in hj
  subst h2
  exact va_cald hX.x hX.b hX.k hP k0 1 (mv_wl_at cI cC ad w hs) rfl h1 hd (kk _ z hg ad H locs ls hG hl hP hD hS)
theorem ev_iast (hX : mv_X p s m args meth c D cl cI cC tb td A cc nL own Ts) {k0 n : Nat} {i x : Int32} {g : Nat → Option ρ} (hs : sh[k0]? = some (.inl (false, n))) (hd : decode cc pc = .ok (.iastore, 1)) (kk : ∀ j, EV p l e R s m args below meth c D cl cI cC td A G Q cells slots sh L st (pc + 1) (mv_up w k0 j x) (g j)) : EV p l e R s m args below meth c D cl cI cC td A G Q cells slots sh L (.inl x :: .inl i :: mvC k0 :: st) pc w ((mv_ix n i).bind g) := fun z hz ad H locs ls hG hl hP hD hS => by
  obtain ⟨j, hj, hg⟩ := Option.bind_eq_some_iff.mp hz
  obtain ⟨h1, h2⟩ := mv_ix_in hj
  subst h2
  have e : (mv_wl cI cC ad w 0 sh).set k0 (ad k0, .inl (cI, n, .inl (upd (w k0) i.toNatClampNeg x))) = mv_wl cI cC ad (mv_up w k0 i.toNatClampNeg x) 0 sh := mv_wl_set0 cI cC ad w _ hs (fun c hc => mv_up_ne w k0 _ x hc) (by rw [mv_up_eq]; rfl)
  exact va_iast hX.x hX.b hX.k hP hD hS k0 0 (mv_wl_at cI cC ad w hs) rfl h1 hd (fun H1 locs1 hP1 hD1 hS1 => kk _ z hg ad H1 locs1 ls hG hl (e ▸ hP1) (e ▸ hD1) hS1)
theorem ev_iastc (hX : mv_X p s m args meth c D cl cI cC tb td A cc nL own Ts) {k0 n j : Nat} {i x : Int32} (hs : sh[k0]? = some (.inl (false, n))) (hj : mv_ix n i = some j) (hd : decode cc pc = .ok (.iastore, 1)) (kk : EV p l e R s m args below meth c D cl cI cC td A G Q cells slots sh L st (pc + 1) (mv_up w k0 j x) r) : EV p l e R s m args below meth c D cl cI cC td A G Q cells slots sh L (.inl x :: .inl i :: mvC k0 :: st) pc w r := fun z hz ad H locs ls hG hl hP hD hS => by
  obtain ⟨h1, h2⟩ := mv_ix_in hj
  subst h2
  have e : (mv_wl cI cC ad w 0 sh).set k0 (ad k0, .inl (cI, n, .inl (upd (w k0) i.toNatClampNeg x))) = mv_wl cI cC ad (mv_up w k0 i.toNatClampNeg x) 0 sh := mv_wl_set0 cI cC ad w _ hs (fun c hc => mv_up_ne w k0 _ x hc) (by rw [mv_up_eq]; rfl)
  exact va_iast hX.x hX.b hX.k hP hD hS k0 0 (mv_wl_at cI cC ad w hs) rfl h1 hd (fun H1 locs1 hP1 hD1 hS1 => kk z hz ad H1 locs1 ls hG hl (e ▸ hP1) (e ▸ hD1) hS1)
theorem ev_cast (hX : mv_X p s m args meth c D cl cI cC tb td A cc nL own Ts) {k0 n : Nat} {i x : Int32} {g : Nat → Option ρ} (hs : sh[k0]? = some (.inl (true, n))) (hd : decode cc pc = .ok (.castore, 1)) (kk : ∀ j, EV p l e R s m args below meth c D cl cI cC td A G Q cells slots sh L st (pc + 1) (mv_up w k0 j (vp_nar .char x)) (g j)) : EV p l e R s m args below meth c D cl cI cC td A G Q cells slots sh L (.inl x :: .inl i :: mvC k0 :: st) pc w ((mv_ix n i).bind g) := fun z hz ad H locs ls hG hl hP hD hS => by
  obtain ⟨j, hj, hg⟩ := Option.bind_eq_some_iff.mp hz
  obtain ⟨h1, h2⟩ := mv_ix_in hj
  subst h2
  have e : (mv_wl cI cC ad w 0 sh).set k0 (ad k0, .inl (cC, n, .inl (upd (w k0) i.toNatClampNeg (vp_nar .char x)))) = mv_wl cI cC ad (mv_up w k0 i.toNatClampNeg (vp_nar .char x)) 0 sh := mv_wl_set0 cI cC ad w _ hs (fun c hc => mv_up_ne w k0 _ _ hc) (by rw [mv_up_eq]; rfl)
  exact va_cast hX.x hX.b hX.k hP hD hS k0 1 (mv_wl_at cI cC ad w hs) rfl h1 hd (fun H1 locs1 hP1 hD1 hS1 => kk _ z hg ad H1 locs1 ls hG hl (e ▸ hP1) (e ▸ hD1) hS1)
theorem ev_alen (hX : mv_X p s m args meth c D cl cI cC tb td A cc nL own Ts) {k0 n : Nat} {v : Int32} {b : Bool} (hs : sh[k0]? = some (.inl (b, n))) (hv : Int32.ofNat n = v) (hd : decode cc pc = .ok (.arraylength, 1)) (kk : EV p l e R s m args below meth c D cl cI cC td A G Q cells slots sh L (.inl v :: st) (pc + 1) w r) : EV p l e R s m args below meth c D cl cI cC td A G Q cells slots sh L (mvC k0 :: st) pc w r := fun z hz ad H locs ls hG hl hP hD hS => by
  have k1 := kk z hz ad H locs ls hG hl hP hD hS
  have h0 := mv_wl_at cI cC ad w hs
  cases b
  · exact va_alen hX.x hX.b hX.k hP k0 0 h0 rfl hv hd k1
  · exact va_alen hX.x hX.b hX.k hP k0 1 h0 rfl hv hd k1
theorem mv_valT {j t : Nat} (ad : Nat → Nat) (h : td j = some t) : mv_val td ad (mvT j) = .ref t := by simp [mv_val, mvT, h, va_rf]
theorem ev_gets (hX : mv_X p s m args meth c D cl cI cC tb td A cc nL own Ts) {j index : Nat} {C n : String} {xs : List Int32} (ht : tb.1[j]? = some (C, n, xs)) (hlink : Cond.fieldLink own index C n "[I" ∈ Ts) (hd : decode cc pc = .ok (.getstatic index, 3)) (kk : EV p l e R s m args below meth c D cl cI cC td A G Q cells slots sh L (mvT j :: st) (pc + 3) w r) : EV p l e R s m args below meth c D cl cI cC td A G Q cells slots sh L st pc w r := fun z hz ad H locs ls hG hl hP hD hS => by
  obtain ⟨t, h1, h2, h3⟩ := hX.sta.1 j _ ht
  have k1 := kk z hz ad H locs ls hG hl hP hD hS
  rw [List.map_cons, mv_valT ad h1] at k1
  exact va_gets hX.x hX.b h2 hS hX.o (hX.ts _ hlink) (fun _ h9 => h9) hd k1
theorem ev_getsN (hX : mv_X p s m args meth c D cl cI cC tb td A cc nL own Ts) {j index : Nat} {C n host : String} {xs : List Int32} (ht : tb.1[j]? = some (C, n, xs)) (hlink : (own, index, C, n, "[I", host) ∈ tb.2.2.2) (hd : decode cc pc = .ok (.getstatic index, 3)) (kk : EV p l e R s m args below meth c D cl cI cC td A G Q cells slots sh L (mvT j :: st) (pc + 3) w r) : EV p l e R s m args below meth c D cl cI cC td A G Q cells slots sh L st pc w r := fun z hz ad H locs ls hG hl hP hD hS => by
  obtain ⟨t, h1, h2, h3⟩ := hX.sta.1 j _ ht
  have k1 := kk z hz ad H locs ls hG hl hP hD hS
  rw [List.map_cons, mv_valT ad h1] at k1
  exact va_getsN hX.x hX.b h2 hS hX.o (va_Nw.use rfl (hX.sta.2.2.2.2.2 _ hlink)) (fun _ h9 => h9) hd k1
theorem ev_tald (hX : mv_X p s m args meth c D cl cI cC tb td A cc nL own Ts) {j : Nat} {C n : String} {xs : List Int32} {i : Int32} {g : Nat → Option ρ} (ht : tb.1[j]? = some (C, n, xs)) (hd : decode cc pc = .ok (.iaload, 1)) (kk : ∀ q, EV p l e R s m args below meth c D cl cI cC td A G Q cells slots sh L (.inl (xs.getD q 0) :: st) (pc + 1) w (g q)) : EV p l e R s m args below meth c D cl cI cC td A G Q cells slots sh L (.inl i :: mvT j :: st) pc w ((mv_ix xs.length i).bind g) := fun z hz ad H locs ls hG hl hP hD hS => by
  obtain ⟨q, hj, hg⟩ := Option.bind_eq_some_iff.mp hz
  obtain ⟨h1, h2⟩ := mv_ix_in hj
  subst h2
  obtain ⟨t, a1, -, a3⟩ := hX.sta.1 j _ ht
  rw [List.map_cons, List.map_cons, mv_valT ad a1]
  exact va_ti hX.x hX.b a3 hS h1 rfl hd (kk _ z hg ad H locs ls hG hl hP hD hS)
theorem ev_tlen (hX : mv_X p s m args meth c D cl cI cC tb td A cc nL own Ts) {j : Nat} {C n : String} {xs : List Int32} {v : Int32} (ht : tb.1[j]? = some (C, n, xs)) (hv : Int32.ofNat xs.length = v) (hd : decode cc pc = .ok (.arraylength, 1)) (kk : EV p l e R s m args below meth c D cl cI cC td A G Q cells slots sh L (.inl v :: st) (pc + 1) w r) : EV p l e R s m args below meth c D cl cI cC td A G Q cells slots sh L (mvT j :: st) pc w r := fun z hz ad H locs ls hG hl hP hD hS => by
  obtain ⟨t, a1, -, a3⟩ := hX.sta.1 j _ ht
  rw [List.map_cons, mv_valT ad a1]
  exact va_tlen hX.x hX.b a3 hS hv hd (kk z hz ad H locs ls hG hl hP hD hS)
theorem ev_taload_n (hX : mv_X p s m args meth c D cl cI cC tb td A cc nL own Ts) {i : Fin 4} {x : Nat} (hd : decode cc pc = .ok (.aload_n i, 1)) (hl0 : L[(i : Nat)]? = some (some (mvT x))) (htd : ∃ t, td x = some t) (k : EV p l e R s m args below meth c D cl cI cC td A G Q cells slots sh L (mvT x :: st) (pc + 1) w r) : EV p l e R s m args below meth c D cl cI cC td A G Q cells slots sh L st pc w r := fun z hz ad H locs ls hG hl hP hD hS => by
  obtain ⟨t, ht⟩ := htd
  have k1 := k z hz ad H locs ls hG hl hP hD hS
  have h1 := hl.2.2 _ _ hl0
  rw [List.map_cons, mv_valT ad ht] at k1
  rw [mv_valT ad ht] at h1
  exact lv_aload_n hX.x hX.b hd rfl h1 k1
theorem ev_ldcS (hX : mv_X p s m args meth c D cl cI cC tb td A cc nL own Ts) {k0 index : Nat} {x : String × Nat × String × List Int32} (ht : tb.2.2.1[k0]? = some x) (ho : x.1 = own) (hi : x.2.1 = index) (hd : decode cc pc = .ok (.ldc index, 2)) (kk : EV p l e R s m args below meth c D cl cI cC td A G Q cells slots sh L (mvT (1000 + 2 * k0) :: st) (pc + 2) w r) : EV p l e R s m args below meth c D cl cI cC td A G Q cells slots sh L st pc w r := fun z hz ad H locs ls hG hl hP hD hS => by
  obtain ⟨a, t, h1, -, h3, -⟩ := hX.sta.2.2.1 k0 _ ht
  subst ho; subst hi
  have k1 := kk z hz ad H locs ls hG hl hP hD hS
  rw [List.map_cons, mv_valT ad h1] at k1
  exact va_ldcS hX.x hX.b hX.o h3 hd k1
theorem ev_getV (hX : mv_X p s m args meth c D cl cI cC tb td A cc nL own Ts) {k0 index : Nat} {x : String × Nat × String × List Int32} (ht : tb.2.2.1[k0]? = some x) (hlink : Cond.fieldLink own index "java/lang/String" "value" "[B" ∈ Ts) (hd : decode cc pc = .ok (.getfield index, 3)) (kk : EV p l e R s m args below meth c D cl cI cC td A G Q cells slots sh L (mvT (1001 + 2 * k0) :: st) (pc + 3) w r) : EV p l e R s m args below meth c D cl cI cC td A G Q cells slots sh L (mvT (1000 + 2 * k0) :: st) pc w r := fun z hz ad H locs ls hG hl hP hD hS => by
  obtain ⟨a, t, h1, h2, -, -, -, h6, -⟩ := hX.sta.2.2.1 k0 _ ht
  have k1 := kk z hz ad H locs ls hG hl hP hD hS
  rw [List.map_cons, mv_valT ad h2] at k1
  rw [List.map_cons, mv_valT ad h1]
  exact vk_getf hX.x hX.b h6 hS hX.o (hX.ts _ hlink) (fun _ h9 => h9) hd k1
theorem ev_getK (hX : mv_X p s m args meth c D cl cI cC tb td A cc nL own Ts) {k0 index : Nat} {x : String × Nat × String × List Int32} (ht : tb.2.2.1[k0]? = some x) (hlink : Cond.fieldLink own index "java/lang/String" "coder" "B" ∈ Ts) (hd : decode cc pc = .ok (.getfield index, 3)) (kk : EV p l e R s m args below meth c D cl cI cC td A G Q cells slots sh L (.inl 0 :: st) (pc + 3) w r) : EV p l e R s m args below meth c D cl cI cC td A G Q cells slots sh L (mvT (1000 + 2 * k0) :: st) pc w r := fun z hz ad H locs ls hG hl hP hD hS => by
  obtain ⟨a, t, h1, h2, -, -, h5, -, -⟩ := hX.sta.2.2.1 k0 _ ht
  rw [List.map_cons, mv_valT ad h1]
  exact vk_getf hX.x hX.b h5 hS hX.o (hX.ts _ hlink) (fun _ h9 => h9) hd (kk z hz ad H locs ls hG hl hP hD hS)
theorem ev_tbald (hX : mv_X p s m args meth c D cl cI cC tb td A cc nL own Ts) {k0 : Nat} {x : String × Nat × String × List Int32} {i : Int32} {g : Nat → Option ρ} (ht : tb.2.2.1[k0]? = some x) (hd : decode cc pc = .ok (.baload, 1)) (kk : ∀ q, EV p l e R s m args below meth c D cl cI cC td A G Q cells slots sh L (.inl (x.2.2.2.getD q 0) :: st) (pc + 1) w (g q)) : EV p l e R s m args below meth c D cl cI cC td A G Q cells slots sh L (.inl i :: mvT (1001 + 2 * k0) :: st) pc w ((mv_ix x.2.2.2.length i).bind g) := fun z hz ad H locs ls hG hl hP hD hS => by
  obtain ⟨q, hj, hg⟩ := Option.bind_eq_some_iff.mp hz
  obtain ⟨h1, h2⟩ := mv_ix_in hj
  subst h2
  obtain ⟨a, t, -, a2, -, -, -, -, a7⟩ := hX.sta.2.2.1 k0 _ ht
  rw [List.map_cons, List.map_cons, mv_valT ad a2]
  exact va_tb hX.x hX.b a7 hS h1 rfl hd (kk _ z hg ad H locs ls hG hl hP hD hS)
theorem ev_tblen (hX : mv_X p s m args meth c D cl cI cC tb td A cc nL own Ts) {k0 : Nat} {x : String × Nat × String × List Int32} {v : Int32} (ht : tb.2.2.1[k0]? = some x) (hv : Int32.ofNat x.2.2.2.length = v) (hd : decode cc pc = .ok (.arraylength, 1)) (kk : EV p l e R s m args below meth c D cl cI cC td A G Q cells slots sh L (.inl v :: st) (pc + 1) w r) : EV p l e R s m args below meth c D cl cI cC td A G Q cells slots sh L (mvT (1001 + 2 * k0) :: st) pc w r := fun z hz ad H locs ls hG hl hP hD hS => by
  obtain ⟨a, t, -, a2, -, -, -, -, a7⟩ := hX.sta.2.2.1 k0 _ ht
  rw [List.map_cons, mv_valT ad a2]
  exact va_tlen hX.x hX.b a7 hS hv hd (kk z hz ad H locs ls hG hl hP hD hS)
theorem ev_iushr (hX : mv_X p s m args meth c D cl cI cC tb td A cc nL own Ts) {x y : Int32} (hd : decode cc pc = .ok (.iushr, 1)) (k : EV p l e R s m args below meth c D cl cI cC td A G Q cells slots sh L (.inl ((x.toUInt32 >>> (y.toUInt32 &&& Int32.toUInt32 31)).toInt32) :: st) (pc + 1) w r) : EV p l e R s m args below meth c D cl cI cC td A G Q cells slots sh L (.inl y :: .inl x :: st) pc w r := fun z hz ad H locs ls hG hl hP hD hS => lv_iushr hX.x hX.b hd rfl (k z hz ad H locs ls hG hl hP hD hS)
theorem ev_ldcw (hX : mv_X p s m args meth c D cl cI cC tb td A cc nL own Ts) {index : Nat} {v : Int32} (hd : decode cc pc = .ok (.ldc_w index, 3)) (hc : Cond.constant own index v ∈ Ts) (k : EV p l e R s m args below meth c D cl cI cC td A G Q cells slots sh L (.inl v :: st) (pc + 3) w r) : EV p l e R s m args below meth c D cl cI cC td A G Q cells slots sh L st pc w r := fun z hz ad H locs ls hG hl hP hD hS => lv_ldcw hX.x hX.b hX.o (hX.ts _ hc) hd (k z hz ad H locs ls hG hl hP hD hS)
def mv_cq (sp dp n : Int32) (n0 n1 : Nat) : Option (Nat × Nat × Nat) := if 0 ≤ sp.toInt ∧ 0 ≤ dp.toInt ∧ 0 ≤ n.toInt ∧ sp.toInt + n.toInt ≤ (n0 : Int) ∧ dp.toInt + n.toInt ≤ (n1 : Int) then some (sp.toNatClampNeg, dp.toNatClampNeg, n.toNatClampNeg) else none
theorem mv_nn {x : Int32} (h : 0 ≤ x.toInt) : ¬ x < 0 := by
  intro hx
  have := Int32.lt_iff_toInt_lt.mp hx
  have e : (0 : Int32).toInt = 0 := rfl
  omega
theorem ev_copy (hX : mv_X p s m args meth c D cl cI cC tb td A cc nL own Ts) {k0 k1 n0 n1 index : Nat} {sp dp n : Int32} {g : Nat × Nat × Nat → Option ρ} (hs0 : sh[k0]? = some (.inl (false, n0))) (hs1 : sh[k1]? = some (.inl (false, n1))) (hl1 : Cond.methodLink own index arraycopyName ∈ Ts) (hl2 : Cond.native arraycopyName ∈ Ts) (hl3 : Cond.static arraycopyName ∈ Ts) (hl4 : Cond.initialized "java/lang/System" ∈ Ts) (hnl : L.length = nL) (hframes : 1 ≤ R.frames) (hlocals : st.length + (nativeFrameWords "java/lang/System" "arraycopy" 5 + 11) ≤ R.locals) (hd : decode cc pc = .ok (.invokestatic index, 3))
    (kk : ∀ q, EV p l e R s m args below meth c D cl cI cC td A G Q cells slots sh L st (pc + 3) (mv_cp w k0 k1 q.1 q.2.1 q.2.2) (g q)) : EV p l e R s m args below meth c D cl cI cC td A G Q cells slots sh L (.inl n :: .inl dp :: mvC k1 :: .inl sp :: mvC k0 :: st) pc w ((mv_cq sp dp n n0 n1).bind g) := fun z hz ad H locs ls hG hl hP hD hS => by
  obtain ⟨q, hj, hg⟩ := Option.bind_eq_some_iff.mp hz
  unfold mv_cq at hj
  split at hj
  next hc =>
    cases hj
    obtain ⟨a1, a2, a3, a4, a5⟩ := hc
    have e : (mv_wl cI cC ad w 0 sh).set k1 (ad k1, .inl (cI, n1, .inl (va_cpy (w k0) (w k1) sp.toNatClampNeg dp.toNatClampNeg n.toNatClampNeg))) = mv_wl cI cC ad (mv_cp w k0 k1 sp.toNatClampNeg dp.toNatClampNeg n.toNatClampNeg) 0 sh := mv_wl_set0 cI cC ad w _ hs1 (fun c hc => by simp [mv_cp, hc]) (by simp [mv_cp, mv_ent])
    have t1 : sp.toNatClampNeg = sp.toInt.toNat := rfl
    have t2 : dp.toNatClampNeg = dp.toInt.toNat := rfl
    have t3 : n.toNatClampNeg = n.toInt.toNat := rfl
    exact va_copyi hX.x hX.b (by rw [hX.ml, hl.1, hnl]) hX.o (hX.ts _ hl1) (hX.ts _ hl2) (hX.ts _ hl3) (hX.ts _ hl4) hX.k hP hD hS k0 k1 0 0 (mv_wl_at cI cC ad w hs0) (mv_wl_at cI cC ad w hs1) rfl rfl rfl (mv_nn a1) (mv_nn a2) (mv_nn a3) (by omega) (by omega) (fun _ _ => rfl) hframes (by rw [mv_cats]; exact hlocals) hd (fun H1 locs1 hP1 hD1 hS1 => kk _ z hg ad H1 locs1 ls hG hl (e ▸ hP1) (e ▸ hD1) hS1)
  next => cases hj
theorem ev_case (v : Int32) {x : Int32} (k1 : x = v → EV p l e R s m args below meth c D cl cI cC td A G Q cells slots sh L st pc w r1) (k2 : ¬ x = v → EV p l e R s m args below meth c D cl cI cC td A G Q cells slots sh L st pc w r2) : EV p l e R s m args below meth c D cl cI cC td A G Q cells slots sh L st pc w (if x = v then r1 else r2) := by
  by_cases h : x = v
  · rw [if_pos h]; exact k1 h
  · rw [if_neg h]; exact k2 h
theorem ev_tsIn (hX : mv_X p s m args meth c D cl cI cC tb td A cc nL own Ts) {dflt lo hi off : Int} {offs : Array Int} {len tgt : Nat} {x v : Int32} (hd : decode cc pc = .ok (.tableswitch dflt lo hi offs, len)) (hx : x = v) (h1 : decide (v.toInt < lo) = false) (h2 : decide (hi < v.toInt) = false) (ho : offs[(v.toInt - lo).toNat]? = some off) (ht : (pc : Int) + off = (tgt : Int)) (k : EV p l e R s m args below meth c D cl cI cC td A G Q cells slots sh L st tgt w r) : EV p l e R s m args below meth c D cl cI cC td A G Q cells slots sh L (.inl x :: st) pc w r := fun z hz ad H locs ls hG hl hP hD hS => by
  subst hx
  exact lv_tableIn hX.x hX.b hd (of_decide_eq_false h1) (of_decide_eq_false h2) ho ht (k z hz ad H locs ls hG hl hP hD hS)
theorem ev_tsOut (hX : mv_X p s m args meth c D cl cI cC tb td A cc nL own Ts) {dflt lo hi : Int} {offs : Array Int} {len tgt : Nat} {x : Int32} (hd : decode cc pc = .ok (.tableswitch dflt lo hi offs, len)) (h : x.toInt < lo ∨ hi < x.toInt) (ht : (pc : Int) + dflt = (tgt : Int)) (k : EV p l e R s m args below meth c D cl cI cC td A G Q cells slots sh L st tgt w r) : EV p l e R s m args below meth c D cl cI cC td A G Q cells slots sh L (.inl x :: st) pc w r := fun z hz ad H locs ls hG hl hP hD hS => lv_tableOut hX.x hX.b hd h ht (k z hz ad H locs ls hG hl hP hD hS)
theorem ev_lks (hX : mv_X p s m args meth c D cl cI cC tb td A cc nL own Ts) {dflt off : Int} {ps : Array (Int × Int)} {len tgt : Nat} {x : Int32} (hd : decode cc pc = .ok (.lookupswitch dflt ps, len)) (hp : (ps.toList.zip (ps.toList.drop 1)).all (fun (a, next) => a.1 < next.1) = true) (ho : Op.lookupswitch.offset ps.toList dflt x.toInt = off) (ht : (pc : Int) + off = (tgt : Int)) (k : EV p l e R s m args below meth c D cl cI cC td A G Q cells slots sh L st tgt w r) : EV p l e R s m args below meth c D cl cI cC td A G Q cells slots sh L (.inl x :: st) pc w r := fun z hz ad H locs ls hG hl hP hD hS => lv_lookup hX.x hX.b hd hp ho ht (k z hz ad H locs ls hG hl hP hD hS)
theorem mv_swout (lo : Int) (n : Nat) {hi : Int} {x : Int32} (h : ∀ j, j < n → ¬ x = Int32.ofInt (lo + j)) (hl : -1000 ≤ lo) (hh : hi = lo + n - 1) (hb : hi ≤ 1000) : x.toInt < lo ∨ hi < x.toInt := by
  by_cases h1 : x.toInt < lo
  · exact Or.inl h1
  · by_cases h2 : hi < x.toInt
    · exact Or.inr h2
    · exfalso
      refine h (x.toInt - lo).toNat (by omega) ?_
      have e : lo + ((x.toInt - lo).toNat : Int) = x.toInt := by omega
      rw [e]
      exact (Int32.ofInt_toInt x).symm
end MV
/-! contracts -/
def mv_At (D : va_G) (cl : List vw_C) (cI cC : ClassId) (sh : List mvSh) (ad : Nat → Nat) (w : mvW) (A : Nat → Prop) (t : State) : Prop := va_P D cl (mv_wl cI cC ad w 0 sh) t.heap ∧ va_D A (mv_wl cI cC ad w 0 sh)
def mv_Pre (D : va_G) (cl : List vw_C) (cI cC : ClassId) (tb : mvTb) (td : Nat → Option Nat) (sh : List mvSh) (ad : Nat → Nat) (w : mvW) (sz : Nat) (av : List mvV) : Array Value → State → Prop := va_Pc (av.map (mv_val td ad)) (fun U => U.heap.size = sz ∧ va_P D cl (mv_wl cI cC ad w 0 sh) U.heap ∧ va_K D cl [(cI, .int), (cC, .char)] U ∧ va_D (fun _ => True) (mv_wl cI cC ad w 0 sh) ∧ mv_St tb td (va_A (mv_wl cI cC ad w 0 sh) sz) U U.heap)
theorem mv_Pre_blind (D : va_G) (cl : List vw_C) (cI cC : ClassId) (tb : mvTb) (td : Nat → Option Nat) (sh : List mvSh) (ad : Nat → Nat) (w : mvW) (sz : Nat) (av : List mvV) : FrameBlind (mv_Pre D cl cI cC tb td sh ad w sz av) := fun a U g mk q => by
  obtain ⟨q0, q1, qP, qK, qD, qS⟩ := q
  exact ⟨q0, q1, qP, va_K.moved (u := U) (U := U.calling g mk a) (Vm.Alike.refl U.vm) qK, qD, mv_St.same (u := U) (U := U.calling g mk a) rfl qS⟩
/-- an int comes back; the world's cells are the same, what they hold may not be -/
def mv_Ci (l : Launch) (D : va_G) (cl : List vw_C) (cI cC : ClassId) (tb : mvTb) (td : Nat → Option Nat) (y : MethodName) (ws : List Cond) (rm : Room) (sh : List mvSh) (w : mvW) (av : List mvV) (z : Int32 × mvW) : Prop := ∀ (ad : Nat → Nat) (sz : Nat), Met l y ws rm (mv_Pre D cl cI cC tb td sh ad w sz av) (va_Qi (fun (r : Int32) (_ : Unit) => r = z.1) (fun _ t => mv_At D cl cI cC sh ad z.2 (va_A (mv_wl cI cC ad w 0 sh) sz) t) (va_A (mv_wl cI cC ad w 0 sh) sz)) 0 0 (va_A (mv_wl cI cC ad w 0 sh) sz)
/-- nothing comes back -/
def mv_Cv (l : Launch) (D : va_G) (cl : List vw_C) (cI cC : ClassId) (tb : mvTb) (td : Nat → Option Nat) (y : MethodName) (ws : List Cond) (rm : Room) (sh : List mvSh) (w : mvW) (av : List mvV) (z : mvW) : Prop := ∀ (ad : Nat → Nat) (sz : Nat), Met l y ws rm (mv_Pre D cl cI cC tb td sh ad w sz av) (va_Qv (fun (_ : Unit) => True) (fun _ t => mv_At D cl cI cC sh ad z (va_A (mv_wl cI cC ad w 0 sh) sz) t) (va_A (mv_wl cI cC ad w 0 sh) sz)) 0 0 (va_A (mv_wl cI cC ad w 0 sh) sz)
/-- nothing comes back; new cells come -/
def mv_Cg (l : Launch) (D : va_G) (cl : List vw_C) (cI cC : ClassId) (tb : mvTb) (td : Nat → Option Nat) (y : MethodName) (ws : List Cond) (rm : Room) (sh sh' : List mvSh) (w : mvW) (av : List mvV) (mc ms : Nat) (z : mvW) : Prop := ∀ (ad : Nat → Nat) (sz : Nat), Met l y ws rm (mv_Pre D cl cI cC tb td sh ad w sz av) (va_Qv (fun (ad' : Nat → Nat) => ∀ k, k < sh.length → ad' k = ad k) (fun ad' t => mv_At D cl cI cC sh' ad' z (va_A (mv_wl cI cC ad w 0 sh) sz) t) (va_A (mv_wl cI cC ad w 0 sh) sz)) mc ms (va_A (mv_wl cI cC ad w 0 sh) sz)
abbrev mv_Qi (below : List Frame) (args : Array Value) (s : State) (D : va_G) (cl : List vw_C) (cI cC : ClassId) (sh : List mvSh) (ad : Nat → Nat) (A : Nat → Prop) (z : Int32 × mvW) : State → Prop := MQ below (va_Qi (fun (r : Int32) (_ : Unit) => r = z.1) (fun _ t => mv_At D cl cI cC sh ad z.2 A t) A) args s 0 0 A
abbrev mv_Qv (below : List Frame) (args : Array Value) (s : State) (D : va_G) (cl : List vw_C) (cI cC : ClassId) (sh : List mvSh) (ad : Nat → Nat) (A : Nat → Prop) (z : mvW) : State → Prop := MQ below (va_Qv (fun (_ : Unit) => True) (fun _ t => mv_At D cl cI cC sh ad z A t) A) args s 0 0 A
abbrev mv_Qg (below : List Frame) (args : Array Value) (s : State) (D : va_G) (cl : List vw_C) (cI cC : ClassId) (n0 : Nat) (sh' : List mvSh) (ad : Nat → Nat) (A : Nat → Prop) (mc ms : Nat) (z : mvW) : State → Prop := MQ below (va_Qv (fun (ad' : Nat → Nat) => ∀ k, k < n0 → ad' k = ad k) (fun ad' t => mv_At D cl cI cC sh' ad' z A t) A) args s mc ms A
theorem mv_entry (td : Nat → Option Nat) (ad : Nat → Nat) (m : MethodId) (av : List mvV) {maxL : Nat} (h : Nat.ble av.length maxL = true) : ∃ ls, entryFrame m (av.map (mv_val td ad)).toArray maxL = F0 m 0 ls [] ∧ mv_lh ls td ad (av.map some ++ List.replicate (maxL - av.length) none) := by
  have hlen : ∀ av : List mvV, (lg_sl (av.map (mv_val td ad))).length = av.length := by
    intro av
    induction av with
    | nil => rfl
    | cons v t ih => simp only [lg_sl, List.map_cons, List.flatMap_cons, mv_cat] at ih ⊢; simp at ih ⊢; omega
  have hargs : ∀ (av : List mvV) (n i : Nat) (v : mvV), av[i]? = some v → (n + i, mv_val td ad v) ∈ lv_args n (av.map (mv_val td ad)) := by
    intro av
    induction av with
    | nil => intro n i v h; simp at h
    | cons x t ih =>
      intro n i v h
      simp only [List.map_cons, lv_args, mv_cat]
      cases i with
      | zero => simp at h; subst h; simp
      | succ i =>
        simp at h
        have := ih (n + 1) i v h
        rw [show n + 1 + i = n + (i + 1) by omega] at this
        simp; exact this
  have h1 := lv_entry (av.map (mv_val td ad)) (n := maxL) (by rw [hlen]; exact Nat.le_of_ble_eq_true h)
  rw [lg_entry_eq]
  refine ⟨_, rfl, ?_, h1.2.1, fun i v hi => ?_⟩
  · rw [h1.1]; have := Nat.le_of_ble_eq_true h; simp; omega
  · refine h1.2.2 (i, mv_val td ad v) ?_
    have h2 : av[i]? = some v := by
      by_cases hlt : i < av.length
      · rw [List.getElem?_append_left (by simpa using hlt)] at hi
        simpa using hi
      · rw [List.getElem?_append_right (by simp; omega), List.getElem?_replicate] at hi
        split at hi <;> simp at hi
    have := hargs av 0 i v h2
    rwa [Nat.zero_add] at this
section MV2
variable {l : Launch} {D : va_G} {cl : List vw_C} {cI cC : ClassId} {tb : mvTb} {td : Nat → Option Nat} {sh : List mvSh} {w : mvW} {y : MethodName} {ws ws' : List Cond} {rm : Room} {cc : ByteArray} {maxL : Nat} {av : List mvV} {L0 : List (Option mvV)}
theorem mv_starti {ty : FieldType} {f : Option (Int32 × mvW)} {own : String} (ho : y.cls = own) (hy : plainName y.cls = true) (hw : ws = Cond.code y cc maxL (some ty) :: ws') (hav : Nat.ble av.length maxL = true) (hL0 : av.map some ++ List.replicate (maxL - av.length) none = L0)
    (body : ∀ p e s m args below meth c A ad, mv_X p s m args meth c D cl cI cC tb td A cc maxL own ws → meth.sig.returnType = some ty → EV p l e (headSpec ws rm).room s m args below meth c D cl cI cC td A (fun a => a = ad) (mv_Qi below args s D cl cI cC sh ad A) 0 0 sh L0 [] 0 w f) : ∀ z, f = some z → mv_Ci l D cl cI cC tb td y ws rm sh w av z := by
  intro z hz ad sz
  refine Met.ofW (cc := cc) (maxL := maxL) (ret := some ty) hy hw ?_
  intro p e s m args below meth c s₁ B hml hv
  obtain ⟨rfl, hsz, hP, hK, hD0, hSt⟩ := hv
  subst hsz
  have hD := hD0.self (sz := s.heap.size)
  have hA : ∀ q : Nat, s.heap.size ≤ q → va_A (mv_wl cI cC ad w 0 sh) s.heap.size q := fun q h => Or.inr h
  obtain ⟨ls, e1, e2⟩ := mv_entry td ad m av hav
  rw [e1]
  exact body p e s m _ below meth c _ ad ⟨B.exec, B.bytes, hml, ho ▸ findClass_of_methodNamed B.named, atoms_spec (ws := ws) B.pre, hA, hK, hSt, B.notSynchronized⟩ B.returns z hz ad s.heap [] ls rfl (hL0 ▸ e2) hP hD va_S.rf
theorem mv_startv {f : Option mvW} {own : String} (ho : y.cls = own) (hy : plainName y.cls = true) (hw : ws = Cond.code y cc maxL none :: ws') (hav : Nat.ble av.length maxL = true) (hL0 : av.map some ++ List.replicate (maxL - av.length) none = L0)
    (body : ∀ p e s m args below meth c A ad, mv_X p s m args meth c D cl cI cC tb td A cc maxL own ws → meth.sig.returnType = none → EV p l e (headSpec ws rm).room s m args below meth c D cl cI cC td A (fun a => a = ad) (mv_Qv below args s D cl cI cC sh ad A) 0 0 sh L0 [] 0 w f) : ∀ z, f = some z → mv_Cv l D cl cI cC tb td y ws rm sh w av z := by
  intro z hz ad sz
  refine Met.ofW (cc := cc) (maxL := maxL) (ret := none) hy hw ?_
  intro p e s m args below meth c s₁ B hml hv
  obtain ⟨rfl, hsz, hP, hK, hD0, hSt⟩ := hv
  subst hsz
  have hD := hD0.self (sz := s.heap.size)
  have hA : ∀ q : Nat, s.heap.size ≤ q → va_A (mv_wl cI cC ad w 0 sh) s.heap.size q := fun q h => Or.inr h
  obtain ⟨ls, e1, e2⟩ := mv_entry td ad m av hav
  rw [e1]
  exact body p e s m _ below meth c _ ad ⟨B.exec, B.bytes, hml, ho ▸ findClass_of_methodNamed B.named, atoms_spec (ws := ws) B.pre, hA, hK, hSt, B.notSynchronized⟩ B.returns z hz ad s.heap [] ls rfl (hL0 ▸ e2) hP hD va_S.rf
theorem mv_startg {f : Option mvW} {sh' : List mvSh} {mc ms : Nat} {own : String} (ho : y.cls = own) (hy : plainName y.cls = true) (hw : ws = Cond.code y cc maxL none :: ws') (hav : Nat.ble av.length maxL = true) (hL0 : av.map some ++ List.replicate (maxL - av.length) none = L0)
    (body : ∀ p e s m args below meth c A ad, mv_X p s m args meth c D cl cI cC tb td A cc maxL own ws → meth.sig.returnType = none → meth.name = y.name → EV p l e (headSpec ws rm).room s m args below meth c D cl cI cC td A (fun a => ∀ k, k < sh.length → a k = ad k) (mv_Qg below args s D cl cI cC sh.length sh' ad A mc ms) 0 0 sh L0 [] 0 w f) : ∀ z, f = some z → mv_Cg l D cl cI cC tb td y ws rm sh sh' w av mc ms z := by
  intro z hz ad sz
  refine Met.ofW (cc := cc) (maxL := maxL) (ret := none) hy hw ?_
  intro p e s m args below meth c s₁ B hml hv
  obtain ⟨rfl, hsz, hP, hK, hD0, hSt⟩ := hv
  subst hsz
  have hD := hD0.self (sz := s.heap.size)
  have hA : ∀ q : Nat, s.heap.size ≤ q → va_A (mv_wl cI cC ad w 0 sh) s.heap.size q := fun q h => Or.inr h
  obtain ⟨ls, e1, e2⟩ := mv_entry td ad m av hav
  rw [e1]
  exact body p e s m _ below meth c _ ad ⟨B.exec, B.bytes, hml, ho ▸ findClass_of_methodNamed B.named, atoms_spec (ws := ws) B.pre, hA, hK, hSt, B.notSynchronized⟩ B.returns (name_of_methodNamed B.named B.method).1 z hz ad s.heap [] ls (fun _ _ => rfl) (hL0 ▸ e2) hP hD va_S.rf
end MV2
section MV3
variable {p : Program} {l : Launch} {e : Env} {R : Room} {s : State} {m : MethodId} {args : Array Value} {below : List Frame} {meth : Method} {c : Code} {D : va_G} {cl : List vw_C} {cI cC : ClassId} {tb : mvTb} {td : Nat → Option Nat} {A : Nat → Prop} {G : (Nat → Nat) → Prop} {ρ : Type} {Q : ρ → State → Prop} {cells slots : Nat} {sh : List mvSh} {L : List (Option mvV)} {st : List mvV} {pc : Nat} {w : mvW} {r r1 r2 : Option ρ} {cc : ByteArray} {nL : Nat} {own : String} {Ts : List Cond} {ad0 : Nat → Nat}
theorem ev_ireti (hX : mv_X p s m args meth c D cl cI cC tb td A cc nL own Ts) (hr : meth.sig.returnType = some .int) {v : Int32} (hd : decode cc pc = .ok (.ireturn, 1)) : EV p l e R s m args below meth c D cl cI cC td A (fun a => a = ad0) (mv_Qi below args s D cl cI cC sh ad0 A) 0 0 sh L [.inl v] pc w (some (v, w)) := fun z hz ad H locs ls hG hl hP hD hS => by
  cases hz; subst hG
  exact W.iret (v := v) hX.x hX.b hr (fun t ht hW => ⟨⟨v, (), rfl, rfl, by rw [ht]; exact hP, hD⟩, hS.F ht⟩) hS.2.2 hd (hlocks := hX.lk)
def mv_bl (v : Int32) (w : mvW) : Option (Int32 × mvW) := if v = 0 ∨ v = 1 then some (v, w) else none
theorem ev_iretz (hX : mv_X p s m args meth c D cl cI cC tb td A cc nL own Ts) (hr : meth.sig.returnType = some .boolean) {v : Int32} (hd : decode cc pc = .ok (.ireturn, 1)) : EV p l e R s m args below meth c D cl cI cC td A (fun a => a = ad0) (mv_Qi below args s D cl cI cC sh ad0 A) 0 0 sh L [.inl v] pc w (mv_bl v w) := fun z hz ad H locs ls hG hl hP hD hS => by
  unfold mv_bl at hz
  split at hz
  next hv =>
    cases hz; subst hG
    exact W.zret (v := v) hX.x hX.b hr (by rcases hv with rfl | rfl <;> rfl) (fun t ht hW => ⟨⟨v, (), rfl, rfl, by rw [ht]; exact hP, hD⟩, hS.F ht⟩) hS.2.2 hd (hlocks := hX.lk)
  next => cases hz
theorem ev_iretz0 (hX : mv_X p s m args meth c D cl cI cC tb td A cc nL own Ts) (hr : meth.sig.returnType = some .boolean) (hd : decode cc pc = .ok (.ireturn, 1)) : EV p l e R s m args below meth c D cl cI cC td A (fun a => a = ad0) (mv_Qi below args s D cl cI cC sh ad0 A) 0 0 sh L [.inl 0] pc w (some (0, w)) := ev_iretz hX hr hd
theorem ev_iretz1 (hX : mv_X p s m args meth c D cl cI cC tb td A cc nL own Ts) (hr : meth.sig.returnType = some .boolean) (hd : decode cc pc = .ok (.ireturn, 1)) : EV p l e R s m args below meth c D cl cI cC td A (fun a => a = ad0) (mv_Qi below args s D cl cI cC sh ad0 A) 0 0 sh L [.inl 1] pc w (some (1, w)) := ev_iretz hX hr hd
theorem ev_vret (hX : mv_X p s m args meth c D cl cI cC tb td A cc nL own Ts) (hr : meth.sig.returnType = none) (hd : decode cc pc = .ok (.return_, 1)) : EV p l e R s m args below meth c D cl cI cC td A (fun a => a = ad0) (mv_Qv below args s D cl cI cC sh ad0 A) 0 0 sh L [] pc w (some w) := fun z hz ad H locs ls hG hl hP hD hS => by
  cases hz; subst hG
  exact W.vret hX.x hX.b hr (fun t ht hW => ⟨⟨(), rfl, trivial, by rw [ht]; exact hP, hD⟩, hS.F ht⟩) hS.2.2 hd (hlocks := hX.lk)
theorem ev_gret (hX : mv_X p s m args meth c D cl cI cC tb td A cc nL own Ts) (hr : meth.sig.returnType = none) {n0 mc ms : Nat} (hmc : Nat.ble cells mc = true) (hms : Nat.ble slots ms = true) (hd : decode cc pc = .ok (.return_, 1)) : EV p l e R s m args below meth c D cl cI cC td A (fun a => ∀ k, k < n0 → a k = ad0 k) (mv_Qg below args s D cl cI cC n0 sh ad0 A mc ms) cells slots sh L [] pc w (some w) := fun z hz ad H locs ls hG hl hP hD hS => by
  cases hz
  refine W.widen (Nat.le_of_ble_eq_true hmc) (Nat.le_of_ble_eq_true hms) ?_
  exact W.vret hX.x hX.b hr (fun t ht hW => ⟨⟨ad, rfl, hG, by rw [ht]; exact hP, hD⟩, hS.F ht⟩) hS.2.2 hd (hlocks := hX.lk)
theorem mv_hfree (hX : mv_X p s m args meth c D cl cI cC tb td A cc nL own Ts) {ad : Nat → Nat} {H : Heap} {locs : List Loc} (hD : va_D A (mv_wl cI cC ad w 0 sh)) (hS : va_S A s.heap H locs) : ∀ q, va_A (mv_wl cI cC ad w 0 sh) H.size q → A q := by
  rintro q (⟨k, e, h⟩ | h)
  · exact hD.2 k _ h
  · exact hX.nw q (Nat.le_trans hS.1 h)
theorem mv_pre (hX : mv_X p s m args meth c D cl cI cC tb td A cc nL own Ts) {ad : Nat → Nat} {H : Heap} {locs : List Loc} (hP : va_P D cl (mv_wl cI cC ad w 0 sh) H) (hD : va_D A (mv_wl cI cC ad w 0 sh)) (hS : va_S A s.heap H locs) (av : List mvV) (U : State) (hU : U.heap = H) (hW : s.WarmedH U.vm) : mv_Pre D cl cI cC tb td sh ad w H.size av (av.map (mv_val td ad)).toArray U := by
  subst hU
  exact ⟨rfl, rfl, hP, va_K.moved hW.alike hX.k, hD.weaken (fun _ _ _ _ => trivial), ((hX.sta.kept (fun a h1 h2 => hS.2.1 a h1 h2)).narrow (mv_hfree hX hD hS)).warm hW⟩
theorem ev_callVi (hX : mv_X p s m args meth c D cl cI cC tb td A cc nL own Ts) {y : MethodName} {ws : List Cond} {rm : Room} {bytes : ByteArray} {maxL n idx k0 ci : Nat} {ret : Option FieldType} {C : String} {q : vw_C} {fs : List (Option (Option Nat))} {st0 As : List mvV} {f : Option (Int32 × mvW)} {g : Int32 × mvW → Option ρ} (hM : ∀ z, f = some z → mv_Ci l D cl cI cC tb td y ws rm sh w (mvC k0 :: As) z) (cw : CallW R s args own C idx y bytes maxL ret ws rm 0 0 n) (hs : sh[k0]? = some (.inr (ci, fs))) (hc : cl[ci]? = some q) (hq : q.1 = C) (hn : As.length = n) (hnl : L.length = nL) (hst : Nat.ble st.length 8 = true) (hroom : cells ≤ R.cells ∧ slots ≤ R.slots) (hd : decode cc pc = .ok (.invokevirtual idx, 3)) (hstk : As.reverse ++ mvC k0 :: st = st0)
    (kk : ∀ z, f = some z → EV p l e R s m args below meth c D cl cI cC td A G Q cells slots sh L (.inl z.1 :: st) (pc + 3) z.2 (g z)) : EV p l e R s m args below meth c D cl cI cC td A G Q cells slots sh L st0 pc w (f.bind g) := fun z hz ad H locs ls hG hl hP hD hS => by
  obtain ⟨v, hf, hg⟩ := Option.bind_eq_some_iff.mp hz
  have hfree := mv_hfree hX hD hS
  subst hstk
  subst hq
  rw [show (As.reverse ++ mvC k0 :: st).map (mv_val td ad) = (As.map (mv_val td ad)).reverse ++ Value.ref (ad k0) :: st.map (mv_val td ad) by simp [mv_val, mvC]]
  refine va_calli (S := Unit) (va_runV (b := ad k0) (As := As.map (mv_val td ad)) (rest := st.map (mv_val td ad)) ⟨hX.x, hX.b, hX.ml, hX.o, hX.ts⟩ (hM v hf ad H.size) cw ⟨mv_Pre_blind _ _ _ _ _ _ _ _ _ _ _, va_recv hX.k hP hc (mv_wl_at cI cC ad w hs), fun U hU hW => mv_pre hX hP hD hS (mvC k0 :: As) U hU hW⟩ rfl (by rw [List.length_map]; exact hn) (hl.1.trans hnl) rfl (lv_room (by rw [mv_cats]; exact Nat.le_of_ble_eq_true hst)) hd hroom) hS (fun q _ h => hfree q h) hfree (fun r u t H1 locs1 ht hvm hpost hB hz1 hk1 hS1 => ?_)
  subst hpost
  subst ht
  exact kk v hf z hg ad t.heap locs1 ls hG hl hB.1 (hB.2.weaken (fun k q _ h => hfree q.1 h)) hS1
theorem ev_callSi (hX : mv_X p s m args meth c D cl cI cC tb td A cc nL own Ts) {y : MethodName} {ws : List Cond} {rm : Room} {bytes : ByteArray} {maxL n idx : Nat} {ret : Option FieldType} {st0 As : List mvV} {f : Option (Int32 × mvW)} {g : Int32 × mvW → Option ρ} (hM : ∀ z, f = some z → mv_Ci l D cl cI cC tb td y ws rm sh w As z) (cw : CallB R s args own idx y bytes maxL ret ws rm 0 0 n ∧ (Cond.static y).before args s = true) (hn : As.length = n) (hnl : L.length = nL) (hst : Nat.ble st.length 8 = true) (hroom : cells ≤ R.cells ∧ slots ≤ R.slots) (hd : decode cc pc = .ok (.invokestatic idx, 3)) (hstk : As.reverse ++ st = st0)
    (kk : ∀ z, f = some z → EV p l e R s m args below meth c D cl cI cC td A G Q cells slots sh L (.inl z.1 :: st) (pc + 3) z.2 (g z)) : EV p l e R s m args below meth c D cl cI cC td A G Q cells slots sh L st0 pc w (f.bind g) := fun z hz ad H locs ls hG hl hP hD hS => by
  obtain ⟨v, hf, hg⟩ := Option.bind_eq_some_iff.mp hz
  have hfree := mv_hfree hX hD hS
  subst hstk
  rw [show (As.reverse ++ st).map (mv_val td ad) = (As.map (mv_val td ad)).reverse ++ st.map (mv_val td ad) by simp]
  refine va_calli (S := Unit) (va_runS (As := As.map (mv_val td ad)) (rest := st.map (mv_val td ad)) ⟨hX.x, hX.b, hX.ml, hX.o, hX.ts⟩ (hM v hf ad H.size) cw ⟨mv_Pre_blind _ _ _ _ _ _ _ _ _ _ _, fun U hU hW => mv_pre hX hP hD hS As U hU hW⟩ rfl (by rw [List.length_map]; exact hn) (hl.1.trans hnl) rfl (lv_room (by rw [mv_cats]; exact Nat.le_of_ble_eq_true hst)) hd hroom) hS (fun q _ h => hfree q h) hfree (fun r u t H1 locs1 ht hvm hpost hB hz1 hk1 hS1 => ?_)
  subst hpost
  subst ht
  exact kk v hf z hg ad t.heap locs1 ls hG hl hB.1 (hB.2.weaken (fun k q _ h => hfree q.1 h)) hS1
theorem ev_callVv (hX : mv_X p s m args meth c D cl cI cC tb td A cc nL own Ts) {y : MethodName} {ws : List Cond} {rm : Room} {bytes : ByteArray} {maxL n idx k0 ci : Nat} {ret : Option FieldType} {C : String} {q : vw_C} {fs : List (Option (Option Nat))} {st0 As : List mvV} {f : Option mvW} {g : mvW → Option ρ} (hM : ∀ z, f = some z → mv_Cv l D cl cI cC tb td y ws rm sh w (mvC k0 :: As) z) (cw : CallW R s args own C idx y bytes maxL ret ws rm 0 0 n) (hs : sh[k0]? = some (.inr (ci, fs))) (hc : cl[ci]? = some q) (hq : q.1 = C) (hn : As.length = n) (hnl : L.length = nL) (hst : Nat.ble st.length 8 = true) (hroom : cells ≤ R.cells ∧ slots ≤ R.slots) (hd : decode cc pc = .ok (.invokevirtual idx, 3)) (hstk : As.reverse ++ mvC k0 :: st = st0)
    (kk : ∀ z, f = some z → EV p l e R s m args below meth c D cl cI cC td A G Q cells slots sh L st (pc + 3) z (g z)) : EV p l e R s m args below meth c D cl cI cC td A G Q cells slots sh L st0 pc w (f.bind g) := fun z hz ad H locs ls hG hl hP hD hS => by
  obtain ⟨v, hf, hg⟩ := Option.bind_eq_some_iff.mp hz
  have hfree := mv_hfree hX hD hS
  subst hstk
  subst hq
  rw [show (As.reverse ++ mvC k0 :: st).map (mv_val td ad) = (As.map (mv_val td ad)).reverse ++ Value.ref (ad k0) :: st.map (mv_val td ad) by simp [mv_val, mvC]]
  refine va_callv (S := Unit) (va_runV (b := ad k0) (As := As.map (mv_val td ad)) (rest := st.map (mv_val td ad)) ⟨hX.x, hX.b, hX.ml, hX.o, hX.ts⟩ (hM v hf ad H.size) cw ⟨mv_Pre_blind _ _ _ _ _ _ _ _ _ _ _, va_recv hX.k hP hc (mv_wl_at cI cC ad w hs), fun U hU hW => mv_pre hX hP hD hS (mvC k0 :: As) U hU hW⟩ rfl (by rw [List.length_map]; exact hn) (hl.1.trans hnl) rfl (lv_room (by rw [mv_cats]; exact Nat.le_of_ble_eq_true hst)) hd hroom) hS (fun q _ h => hfree q h) hfree (fun u t H1 locs1 ht hvm hpost hB hz1 hk1 hS1 => ?_)
  subst ht
  exact kk v hf z hg ad t.heap locs1 ls hG hl hB.1 (hB.2.weaken (fun k q _ h => hfree q.1 h)) hS1
/-! new cells -/
def mv_okV (n : Nat) (v : mvV) : Bool := match v with
  | .inr (.inl k) => Nat.ble (k + 1) n
  | _ => true
def mv_okO (n : Nat) (o : Option mvV) : Bool := match o with
  | none => true
  | some v => mv_okV n v
def mv_okS (n : Nat) : List mvV → Bool
  | [] => true
  | v :: t => mv_okV n v && mv_okS n t
def mv_okL (n : Nat) : List (Option mvV) → Bool
  | [] => true
  | v :: t => mv_okO n v && mv_okL n t
def mv_okF (n : Nat) : List (Option (Option Nat)) → Bool
  | [] => true
  | some (some j) :: t => Nat.ble (j + 1) n && mv_okF n t
  | _ :: t => mv_okF n t
def mv_okC (n : Nat) : List mvSh → Bool
  | [] => true
  | .inl _ :: t => mv_okC n t
  | .inr (_, fs) :: t => mv_okF n fs && mv_okC n t
theorem mv_val_ok {n : Nat} {td : Nat → Option Nat} {ad ad' : Nat → Nat} (h : ∀ k, k < n → ad' k = ad k) {v : mvV} (hv : mv_okV n v = true) : mv_val td ad' v = mv_val td ad v := by
  rcases v with x | x | x
  · rfl
  · simp only [mv_val]; rw [h x (Nat.le_of_ble_eq_true hv)]
  · rfl
theorem mv_okS_map {n : Nat} {td : Nat → Option Nat} {ad ad' : Nat → Nat} (h : ∀ k, k < n → ad' k = ad k) : ∀ {st : List mvV}, mv_okS n st = true → st.map (mv_val td ad') = st.map (mv_val td ad)
  | [], _ => rfl
  | v :: t, hs => by
    simp only [mv_okS, Bool.and_eq_true] at hs
    rw [List.map_cons, List.map_cons, mv_val_ok h hs.1, mv_okS_map h hs.2]
theorem mv_okL_get {n : Nat} : ∀ {L : List (Option mvV)} {i : Nat} {v : mvV}, mv_okL n L = true → L[i]? = some (some v) → mv_okV n v = true
  | [], i, v, _, h => by simp at h
  | x :: t, 0, v, hs, h => by
    simp only [mv_okL, Bool.and_eq_true] at hs
    simp at h; subst h; exact hs.1
  | x :: t, i + 1, v, hs, h => by
    simp only [mv_okL, Bool.and_eq_true] at hs
    rw [List.getElem?_cons_succ] at h
    exact mv_okL_get hs.2 h
theorem mv_lh.ext {n : Nat} {ls : Array Slot} {td : Nat → Option Nat} {ad ad' : Nat → Nat} {L : List (Option mvV)} (h : ∀ k, k < n → ad' k = ad k) (hL : mv_okL n L = true) (hl : mv_lh ls td ad L) : mv_lh ls td ad' L := ⟨hl.1, hl.2.1, fun i v hi => by rw [mv_val_ok h (mv_okL_get hL hi)]; exact hl.2.2 i v hi⟩
theorem mv_fld_ext {N : Nat} {ad ad' : Nat → Nat} (h : ∀ k, k < N → ad' k = ad k) (w : Nat → Int32) : ∀ (fs : List (Option (Option Nat))) (n : Nat), mv_okF N fs = true → mv_fld ad' w n fs = mv_fld ad w n fs
  | [], _, _ => rfl
  | none :: t, n, hs => by rw [mv_fld, mv_fld, mv_fld_ext h w t (n + 1) hs]
  | some none :: t, n, hs => by rw [mv_fld, mv_fld, mv_fld_ext h w t (n + 1) hs]
  | some (some j) :: t, n, hs => by
    simp only [mv_okF, Bool.and_eq_true] at hs
    rw [mv_fld, mv_fld, h j (Nat.le_of_ble_eq_true hs.1), mv_fld_ext h w t (n + 1) hs.2]
theorem mv_wl_ext {N : Nat} (cI cC : ClassId) {ad ad' : Nat → Nat} {w w' : mvW} (h : ∀ k, k < N → ad' k = ad k) (hw : ∀ k, k < N → w' k = w k) : ∀ (sh : List mvSh) (n : Nat), n + sh.length ≤ N → mv_okC N sh = true → mv_wl cI cC ad' w' n sh = mv_wl cI cC ad w n sh
  | [], _, _, _ => rfl
  | .inl a :: t, n, hn, hs => by
    simp only [List.length_cons] at hn
    rw [mv_wl, mv_wl, h n (by omega), hw n (by omega), mv_wl_ext cI cC h hw t (n + 1) (by omega) hs]; rfl
  | .inr (ci, fs) :: t, n, hn, hs => by
    simp only [List.length_cons] at hn
    simp only [mv_okC, Bool.and_eq_true] at hs
    rw [mv_wl, mv_wl, h n (by omega), hw n (by omega), mv_wl_ext cI cC h hw t (n + 1) (by omega) hs.2]
    simp only [mv_ent]
    rw [mv_fld_ext h (w n) fs 0 hs.1]
theorem mv_wl_app (cI cC : ClassId) (ad : Nat → Nat) (w : mvW) (x : mvSh) : ∀ (sh : List mvSh) (n : Nat), mv_wl cI cC ad w n (sh ++ [x]) = mv_wl cI cC ad w n sh ++ [(ad (n + sh.length), mv_ent cI cC ad (w (n + sh.length)) x)]
  | [], n => by simp [mv_wl]
  | y :: t, n => by
    rw [List.cons_append, mv_wl, mv_wl, List.cons_append, mv_wl_app cI cC ad w x t (n + 1), List.length_cons, show n + 1 + t.length = n + (t.length + 1) by omega]
/-- a new cell of zeros -/
def mv_z (w : mvW) (n : Nat) : mvW := fun c => if c = n then fun _ => 0 else w c
def mv_ad (ad : Nat → Nat) (n q : Nat) : Nat → Nat := fun k => if k = n then q else ad k
theorem mv_grow (cI cC : ClassId) {sh : List mvSh} {n : Nat} (hn : sh.length = n) (hok : mv_okC n sh = true) (ad : Nat → Nat) (w : mvW) (q : Nat) (x : mvSh) : mv_wl cI cC (mv_ad ad n q) (mv_z w n) 0 (sh ++ [x]) = mv_wl cI cC ad w 0 sh ++ [(q, mv_ent cI cC (mv_ad ad n q) (fun _ => 0) x)] := by
  subst hn
  rw [mv_wl_app, mv_wl_ext (N := sh.length) cI cC (ad := ad) (w := w) (fun k hk => by simp [mv_ad]; omega) (fun k hk => by simp [mv_z]; omega) sh 0 (by omega) hok]
  simp [mv_ad, mv_z]
theorem ev_objInit (hX : mv_X p s m args meth c D cl cI cC tb td A cc nL own Ts) {k0 idx : Nat} (hl1 : Cond.methodLink own idx Lib.objectInit ∈ Ts) (hl2 : Cond.instanceMethod Lib.objectInit ∈ Ts) (hl3 : Cond.code Lib.objectInit ⟨#[0xb1]⟩ 1 none ∈ Ts) (hnl : L.length = nL) (hf : 1 ≤ R.frames) (hlo : st.length + 12 ≤ R.locals) (hd : decode cc pc = .ok (.invokespecial idx, 3)) (kk : EV p l e R s m args below meth c D cl cI cC td A G Q cells slots sh L st (pc + 3) w r) : EV p l e R s m args below meth c D cl cI cC td A G Q cells slots sh L (mvC k0 :: st) pc w r := fun z hz ad H locs ls hG hl hP hD hS => by
  refine W.objInit hX.x hX.b hX.o (hX.ts _ hl1) (hX.ts _ hl2) (hX.ts _ hl3) rfl (by rw [hX.ml]; exact hl.1.trans hnl) rfl hd hf (by rw [mv_cats]; show 2 * 0 + _ + 12 ≤ _; omega) ?_
  exact W.eq (g2 := F0 m (pc + 3) ls (st.map (mv_val td ad))) rfl (kk z hz ad H locs ls hG hl hP hD hS)
theorem ev_new (hX : mv_X p s m args meth c D cl cI cC tb td A cc nL own Ts) {n0 n N ci index : Nat} {C : String} {T : u_T} {tm : List (Option (Option Nat))} {fs : List Value} {sh' : List mvSh} (hin : ∀ w ∈ u_ws C T N, w ∈ Ts) (ty : Nat → FieldType) (hty : ∀ k, k < N → parseFieldDescriptor (T k).2.2.1 = some (ty k)) (hcl : Cond.classLink own index C ∈ Ts) (hinst : Cond.instantiable C N ∈ Ts) (hini : Cond.initialized C ∈ Ts) (hc : cl[ci]? = some (C, T, N)) (hfs : ∀ j, j < N → defaultValue (ty j) = vp_V fs j) (htm : ∀ a, mv_fld a (fun _ => 0) 0 tm = fs) (hn : sh.length = n) (hok : mv_okC n sh = true) (hokL : mv_okL n L = true) (hokS : mv_okS n st = true) (hn0 : Nat.ble n0 n = true) (hsh : sh ++ [.inr (ci, tm)] = sh') (hr1 : cells + 1 ≤ R.cells) (hr2 : slots + N ≤ R.slots) (hd : decode cc pc = .ok (.new index, 3))
    (kk : EV p l e R s m args below meth c D cl cI cC td A (fun a => ∀ k, k < n0 → a k = ad0 k) Q (cells + 1) (slots + N) sh' L (mvC n :: st) (pc + 3) (mv_z w n) r) : EV p l e R s m args below meth c D cl cI cC td A (fun a => ∀ k, k < n0 → a k = ad0 k) Q cells slots sh L st pc w r := fun z hz ad H locs ls hG hl hP hD hS => by
  subst hsh
  refine va_new hX.x hX.b hX.ts hin ty hty hX.o (hX.ts _ hcl) (hX.ts _ hinst) (hX.ts _ hini) hX.k hP hD hS hX.nw hc hfs hr1 hr2 hd (fun q H1 hP1 hD1 hS1 => ?_)
  have e := mv_grow cI cC hn hok ad w q (.inr (ci, tm))
  simp only [mv_ent] at e
  rw [htm] at e
  rw [← e] at hP1 hD1
  have hag : ∀ k, k < n → mv_ad ad n q k = ad k := fun k hk => by simp [mv_ad]; omega
  have hn0' := Nat.le_of_ble_eq_true hn0
  have h2 := kk z hz (mv_ad ad n q) H1 locs ls (fun k hk => by rw [hag k (by omega)]; exact hG k hk) (hl.ext hag hokL) hP1 hD1 hS1
  rw [List.map_cons, mv_okS_map hag hokS] at h2
  have e3 : mv_val td (mv_ad ad n q) (mvC n) = .ref q := by simp [mv_val, mvC, mv_ad]
  rw [e3] at h2
  exact h2
theorem mv_RAi {U : State} {a b : ClassId} (h1 : va_RA U a .int) (h2 : va_RA U b .int) : a = b := by
  have h1' : U.vm.findClass ("[" ++ FieldType.int.toString) = some a := h1
  have h2' : U.vm.findClass ("[" ++ FieldType.int.toString) = some b := h2
  rw [h1'] at h2'; exact Option.some.inj h2'
theorem mv_RAc {U : State} {a b : ClassId} (h1 : va_RA U a .char) (h2 : va_RA U b .char) : a = b := by
  have h1' : U.vm.findClass ("[" ++ FieldType.char.toString) = some a := h1
  have h2' : U.vm.findClass ("[" ++ FieldType.char.toString) = some b := h2
  rw [h1'] at h2'; exact Option.some.inj h2'
theorem ev_newi (hX : mv_X p s m args meth c D cl cI cC tb td A cc nL own Ts) {n0 n N : Nat} {x : Int32} {sh' : List mvSh} (harr : Cond.arrayClass .int ∈ Ts) (hx : mv_ix (N + 1) x = some N) (hb : N * componentBytes .int ≤ 536870912) (hn : sh.length = n) (hok : mv_okC n sh = true) (hokL : mv_okL n L = true) (hokS : mv_okS n st = true) (hn0 : Nat.ble n0 n = true) (hsh : sh ++ [.inl (false, N)] = sh') (hr1 : cells + 1 ≤ R.cells) (hr2 : slots + N ≤ R.slots) (hd : decode cc pc = .ok (.newarray .int, 2))
    (kk : EV p l e R s m args below meth c D cl cI cC td A (fun a => ∀ k, k < n0 → a k = ad0 k) Q (cells + 1) (slots + N) sh' L (mvC n :: st) (pc + 2) (mv_z w n) r) : EV p l e R s m args below meth c D cl cI cC td A (fun a => ∀ k, k < n0 → a k = ad0 k) Q cells slots sh L (.inl x :: st) pc w r := fun z hz ad H locs ls hG hl hP hD hS => by
  subst hsh
  obtain ⟨hi1, hi2⟩ := mv_ix_in hx
  refine va_newa (atype := .int) hX.x hX.b (hX.ts _ harr) (ty := .int) rfl hX.k hP hD hS hX.nw (a0 := (N, .inl (fun _ => 0))) (fun _ => rfl) (fun h => hi1 (Or.inl h)) hi2 hb hr1 hr2 hd (fun q cA H1 hK1 hP1 hD1 hS1 => ?_)
  have hcA : cA = cI := mv_RAi (hK1.2 2 _ rfl).2 (hK1.2 0 _ rfl).2
  subst hcA
  have e := mv_grow cA cC hn hok ad w q (.inl (false, N))
  have e4 : mv_ent cA cC (mv_ad ad n q) (fun _ => 0) (.inl (false, N)) = .inl (cA, N, .inl (fun _ => 0)) := rfl
  rw [e4] at e
  rw [← e] at hP1 hD1
  have hag : ∀ k, k < n → mv_ad ad n q k = ad k := fun k hk => by simp [mv_ad]; omega
  have hn0' := Nat.le_of_ble_eq_true hn0
  have h2 := kk z hz (mv_ad ad n q) H1 locs ls (fun k hk => by rw [hag k (by omega)]; exact hG k hk) (hl.ext hag hokL) hP1 hD1 hS1
  rw [List.map_cons, mv_okS_map hag hokS] at h2
  have e3 : mv_val td (mv_ad ad n q) (mvC n) = .ref q := by simp [mv_val, mvC, mv_ad]
  rw [e3] at h2
  exact h2
theorem ev_newc (hX : mv_X p s m args meth c D cl cI cC tb td A cc nL own Ts) {n0 n N : Nat} {x : Int32} {sh' : List mvSh} (harr : Cond.arrayClass .char ∈ Ts) (hx : mv_ix (N + 1) x = some N) (hb : N * componentBytes .char ≤ 536870912) (hn : sh.length = n) (hok : mv_okC n sh = true) (hokL : mv_okL n L = true) (hokS : mv_okS n st = true) (hn0 : Nat.ble n0 n = true) (hsh : sh ++ [.inl (true, N)] = sh') (hr1 : cells + 1 ≤ R.cells) (hr2 : slots + N ≤ R.slots) (hd : decode cc pc = .ok (.newarray .char, 2))
    (kk : EV p l e R s m args below meth c D cl cI cC td A (fun a => ∀ k, k < n0 → a k = ad0 k) Q (cells + 1) (slots + N) sh' L (mvC n :: st) (pc + 2) (mv_z w n) r) : EV p l e R s m args below meth c D cl cI cC td A (fun a => ∀ k, k < n0 → a k = ad0 k) Q cells slots sh L (.inl x :: st) pc w r := fun z hz ad H locs ls hG hl hP hD hS => by
  subst hsh
  obtain ⟨hi1, hi2⟩ := mv_ix_in hx
  refine va_newa (atype := .char) hX.x hX.b (hX.ts _ harr) (ty := .char) rfl hX.k hP hD hS hX.nw (a0 := (N, .inl (fun _ => 0))) (fun _ => rfl) (fun h => hi1 (Or.inl h)) hi2 hb hr1 hr2 hd (fun q cA H1 hK1 hP1 hD1 hS1 => ?_)
  have hcA : cA = cC := mv_RAc (hK1.2 2 _ rfl).2 (hK1.2 1 _ rfl).2
  subst hcA
  have e := mv_grow cI cA hn hok ad w q (.inl (true, N))
  have e4 : mv_ent cI cA (mv_ad ad n q) (fun _ => 0) (.inl (true, N)) = .inl (cA, N, .inl (fun _ => 0)) := rfl
  rw [e4] at e
  rw [← e] at hP1 hD1
  have hag : ∀ k, k < n → mv_ad ad n q k = ad k := fun k hk => by simp [mv_ad]; omega
  have hn0' := Nat.le_of_ble_eq_true hn0
  have h2 := kk z hz (mv_ad ad n q) H1 locs ls (fun k hk => by rw [hag k (by omega)]; exact hG k hk) (hl.ext hag hokL) hP1 hD1 hS1
  rw [List.map_cons, mv_okS_map hag hokS] at h2
  have e3 : mv_val td (mv_ad ad n q) (mvC n) = .ref q := by simp [mv_val, mvC, mv_ad]
  rw [e3] at h2
  exact h2
theorem mv_fld_setr (ad : Nat → Nat) (w : Nat → Int32) (j : Nat) : ∀ (fs : List (Option (Option Nat))) (n k : Nat), (mv_fld ad w n fs).set k (.ref (ad j)) = mv_fld ad w n (fs.set k (some (some j)))
  | [], _, _ => by simp [mv_fld]
  | none :: t, n, 0 => by simp [mv_fld]
  | some none :: t, n, 0 => by simp [mv_fld]
  | some (some i) :: t, n, 0 => by simp [mv_fld]
  | none :: t, n, k + 1 => by simp [mv_fld, mv_fld_setr ad w j t (n + 1) k]
  | some none :: t, n, k + 1 => by simp [mv_fld, mv_fld_setr ad w j t (n + 1) k]
  | some (some i) :: t, n, k + 1 => by simp [mv_fld, mv_fld_setr ad w j t (n + 1) k]
theorem mv_wl_setr (cI cC : ClassId) (ad : Nat → Nat) (w : mvW) (y : mvSh) : ∀ (sh : List mvSh) (n k : Nat), (mv_wl cI cC ad w n sh).set k (ad (n + k), mv_ent cI cC ad (w (n + k)) y) = mv_wl cI cC ad w n (sh.set k y)
  | [], _, _ => by simp [mv_wl]
  | x :: t, n, 0 => by simp [mv_wl]
  | x :: t, n, k + 1 => by
    have := mv_wl_setr cI cC ad w y t (n + 1) k
    rw [show n + 1 + k = n + (k + 1) by omega] at this
    simp [mv_wl, this]
theorem ev_putr (hX : mv_X p s m args meth c D cl cI cC tb td A cc nL own Ts) {k0 ci k j index N : Nat} {fs : List (Option (Option Nat))} {C : String} {T : u_T} {ty : FieldType} {sh' : List mvSh} (hin : ∀ w ∈ u_ws C T N, w ∈ Ts) (ty0 : Nat → FieldType) (hty : ∀ k, k < N → parseFieldDescriptor (T k).2.2.1 = some (ty0 k)) (hnm : ∀ a, a < N → ∀ b, b < N → a ≠ b → (T a).2.1 ≠ (T b).2.1) (hs : sh[k0]? = some (.inr (ci, fs))) (hc : cl[ci]? = some (C, T, N)) (hk : Nat.ble (k + 1) N = true) (hlink : Cond.fieldLink own index (T k).1 (T k).2.1 (T k).2.2.1 ∈ Ts) (hfin : (T k).2.2.2 = true) (hin2 : meth.name = "<init>") (hdecl : (T k).1 = own) (hdt : parseFieldDescriptor (T k).2.2.1 = some ty) (hn : ∀ a, narrow ty (.ref a) = .ref a) (hfit : ∀ a, fits ty (.ref a) = true) (hv : Nat.ble (k + 1) fs.length = true) (hsh : sh.set k0 (.inr (ci, fs.set k (some (some j)))) = sh') (hd : decode cc pc = .ok (.putfield index, 3)) (kk : EV p l e R s m args below meth c D cl cI cC td A G Q cells slots sh' L st (pc + 3) w r) : EV p l e R s m args below meth c D cl cI cC td A G Q cells slots sh L (mvC j :: mvC k0 :: st) pc w r := fun z hz ad H locs ls hG hl hP hD hS => by
  subst hsh
  have e : (mv_wl cI cC ad w 0 sh).set k0 (ad k0, .inr (ci, (mv_fld ad (w k0) 0 fs).set k (.ref (ad j)))) = mv_wl cI cC ad w 0 (sh.set k0 (.inr (ci, fs.set k (some (some j))))) := by
    have h := mv_wl_setr cI cC ad w (.inr (ci, fs.set k (some (some j)))) sh 0 k0
    rw [Nat.zero_add] at h
    rw [← h, mv_fld_setr]; rfl
  exact va_putF hX.x hX.b hX.ts hin ty0 hty hnm hX.o hX.k hP hD hS k0 (mv_wl_at cI cC ad w hs) hc k (Nat.le_of_ble_eq_true hk) (hX.ts _ hlink) (fun _ h9 => h9) hfin hin2 hdecl hdt (hn _) (hfit _) (by rw [mv_fld_len]; exact Nat.le_of_ble_eq_true hv) hd (fun H1 locs1 hP1 hD1 hS1 => kk z hz ad H1 locs1 ls hG hl (e ▸ hP1) (e ▸ hD1) hS1)
theorem ev_callg (hX : mv_X p s m args meth c D cl cI cC tb td A cc nL own Ts) {y : MethodName} {ws : List Cond} {rm : Room} {bytes : ByteArray} {maxL n idx k0 n0 nn mc ms : Nat} {st0 As : List mvV} {f : Option mvW} {sh' : List mvSh} {g : mvW → Option ρ} (hM : ∀ z, f = some z → mv_Cg l D cl cI cC tb td y ws rm sh sh' w (mvC k0 :: As) mc ms z) (cw : CallB R s args own idx y bytes maxL none ws rm mc ms n ∧ y.name = "<init>" ∧ (Cond.instanceMethod y).before args s = true) (hn : As.length = n) (hnl : L.length = nL) (hst : Nat.ble st.length 8 = true) (hroom : cells + mc ≤ R.cells ∧ slots + ms ≤ R.slots) (hnn : sh.length = nn) (hokL : mv_okL nn L = true) (hokS : mv_okS nn st = true) (hn0 : Nat.ble n0 nn = true) (hd : decode cc pc = .ok (.invokespecial idx, 3)) (hstk : As.reverse ++ mvC k0 :: st = st0)
    (kk : ∀ z, f = some z → EV p l e R s m args below meth c D cl cI cC td A (fun a => ∀ k, k < n0 → a k = ad0 k) Q (cells + mc) (slots + ms) sh' L st (pc + 3) z (g z)) : EV p l e R s m args below meth c D cl cI cC td A (fun a => ∀ k, k < n0 → a k = ad0 k) Q cells slots sh L st0 pc w (f.bind g) := fun z hz ad H locs ls hG hl hP hD hS => by
  obtain ⟨v, hf, hg⟩ := Option.bind_eq_some_iff.mp hz
  have hfree := mv_hfree hX hD hS
  subst hstk
  subst hnn
  rw [show (As.reverse ++ mvC k0 :: st).map (mv_val td ad) = (As.map (mv_val td ad)).reverse ++ Value.ref (ad k0) :: st.map (mv_val td ad) by simp [mv_val, mvC]]
  refine va_callv (va_runI (b := ad k0) (As := As.map (mv_val td ad)) (rest := st.map (mv_val td ad)) ⟨hX.x, hX.b, hX.ml, hX.o, hX.ts⟩ (hM v hf ad H.size) cw ⟨mv_Pre_blind _ _ _ _ _ _ _ _ _ _ _, fun U hU hW => mv_pre hX hP hD hS (mvC k0 :: As) U hU hW⟩ rfl (by rw [List.length_map]; exact hn) (hl.1.trans hnl) rfl (lv_room (by rw [mv_cats]; exact Nat.le_of_ble_eq_true hst)) hd hroom) hS (fun q _ h => hfree q h) hfree (fun ad' t H1 locs1 ht hvm hag hB hz1 hk1 hS1 => ?_)
  subst ht
  have hn0' := Nat.le_of_ble_eq_true hn0
  have h2 := kk v hf z hg ad' t.heap locs1 ls (fun k hk => by rw [hag k (by omega)]; exact hG k hk) (hl.ext hag hokL) hB.1 (hB.2.weaken (fun k q _ h => hfree q.1 h)) hS1
  rw [mv_okS_map hag hokS] at h2
  exact h2
theorem mv_recvO {a : Nat} {H : Heap} {locs : List Loc} {C : String} (hO : va_O C a A s s.heap) (hS : va_S A s.heap H locs) : ∃ cell : Cell, H[a]? = some cell ∧ cell.vm.isStatics = false ∧ s.vm.findClass C = some cell.cls := by
  obtain ⟨cell, h1, h2, h3, h4⟩ := hO
  exact ⟨cell, by rw [hS.2.1 a (Array.getElem?_eq_some_iff.mp h1).1 h4]; exact h1, h2, h3⟩
theorem ev_callNi (hX : mv_X p s m args meth c D cl cI cC tb td A cc nL own Ts) {y : MethodName} {ws : List Cond} {rm : Room} {bytes : ByteArray} {maxL n idx : Nat} {ret : Option FieldType} {st0 As : List mvV} {f : Option (Int32 × mvW)} {g : Int32 × mvW → Option ρ} (hM : ∀ z, f = some z → mv_Ci l D cl cI cC tb td y ws rm sh w As z) {host : String} (cw : va_CN R s args own idx y host bytes maxL ret ws rm 0 0 n ∧ (Cond.static y).before args s = true ∧ True) (hn : As.length = n) (hnl : L.length = nL) (hst : Nat.ble st.length 8 = true) (hroom : cells ≤ R.cells ∧ slots ≤ R.slots) (hd : decode cc pc = .ok (.invokestatic idx, 3)) (hstk : As.reverse ++ st = st0)
    (kk : ∀ z, f = some z → EV p l e R s m args below meth c D cl cI cC td A G Q cells slots sh L (.inl z.1 :: st) (pc + 3) z.2 (g z)) : EV p l e R s m args below meth c D cl cI cC td A G Q cells slots sh L st0 pc w (f.bind g) := fun z hz ad H locs ls hG hl hP hD hS => by
  obtain ⟨v, hf, hg⟩ := Option.bind_eq_some_iff.mp hz
  have hfree := mv_hfree hX hD hS
  subst hstk
  rw [show (As.reverse ++ st).map (mv_val td ad) = (As.map (mv_val td ad)).reverse ++ st.map (mv_val td ad) by simp]
  refine va_calli (S := Unit) (va_runSN (As := As.map (mv_val td ad)) (rest := st.map (mv_val td ad)) ⟨hX.x, hX.b, hX.ml, hX.o, hX.ts⟩ (hM v hf ad H.size) cw ⟨mv_Pre_blind _ _ _ _ _ _ _ _ _ _ _, fun U hU hW => mv_pre hX hP hD hS As U hU hW⟩ rfl (by rw [List.length_map]; exact hn) (hl.1.trans hnl) rfl (lv_room (by rw [mv_cats]; exact Nat.le_of_ble_eq_true hst)) hd hroom) hS (fun q _ h => hfree q h) hfree (fun r u t H1 locs1 ht hvm hpost hB hz1 hk1 hS1 => ?_)
  subst hpost
  subst ht
  exact kk v hf z hg ad t.heap locs1 ls hG hl hB.1 (hB.2.weaken (fun k q _ h => hfree q.1 h)) hS1
theorem ev_callSv (hX : mv_X p s m args meth c D cl cI cC tb td A cc nL own Ts) {y : MethodName} {ws : List Cond} {rm : Room} {bytes : ByteArray} {maxL n idx : Nat} {ret : Option FieldType} {st0 As : List mvV} {f : Option mvW} {g : mvW → Option ρ} (hM : ∀ z, f = some z → mv_Cv l D cl cI cC tb td y ws rm sh w As z) (cw : CallB R s args own idx y bytes maxL ret ws rm 0 0 n ∧ (Cond.static y).before args s = true) (hn : As.length = n) (hnl : L.length = nL) (hst : Nat.ble st.length 8 = true) (hroom : cells ≤ R.cells ∧ slots ≤ R.slots) (hd : decode cc pc = .ok (.invokestatic idx, 3)) (hstk : As.reverse ++ st = st0)
    (kk : ∀ z, f = some z → EV p l e R s m args below meth c D cl cI cC td A G Q cells slots sh L st (pc + 3) z (g z)) : EV p l e R s m args below meth c D cl cI cC td A G Q cells slots sh L st0 pc w (f.bind g) := fun z hz ad H locs ls hG hl hP hD hS => by
  obtain ⟨v, hf, hg⟩ := Option.bind_eq_some_iff.mp hz
  have hfree := mv_hfree hX hD hS
  subst hstk
  rw [show (As.reverse ++ st).map (mv_val td ad) = (As.map (mv_val td ad)).reverse ++ st.map (mv_val td ad) by simp]
  refine va_callv (S := Unit) (va_runS (As := As.map (mv_val td ad)) (rest := st.map (mv_val td ad)) ⟨hX.x, hX.b, hX.ml, hX.o, hX.ts⟩ (hM v hf ad H.size) cw ⟨mv_Pre_blind _ _ _ _ _ _ _ _ _ _ _, fun U hU hW => mv_pre hX hP hD hS As U hU hW⟩ rfl (by rw [List.length_map]; exact hn) (hl.1.trans hnl) rfl (lv_room (by rw [mv_cats]; exact Nat.le_of_ble_eq_true hst)) hd hroom) hS (fun q _ h => hfree q h) hfree (fun u t H1 locs1 ht hvm hpost hB hz1 hk1 hS1 => ?_)
  subst ht
  exact kk v hf z hg ad t.heap locs1 ls hG hl hB.1 (hB.2.weaken (fun k q _ h => hfree q.1 h)) hS1
theorem ev_callTi (hX : mv_X p s m args meth c D cl cI cC tb td A cc nL own Ts) {y : MethodName} {ws : List Cond} {rm : Room} {bytes : ByteArray} {maxL n idx k0 : Nat} {ret : Option FieldType} {x : String × Nat × String × List Int32} {st0 As : List mvV} {f : Option (Int32 × mvW)} {g : Int32 × mvW → Option ρ} (hM : ∀ z, f = some z → mv_Ci l D cl cI cC tb td y ws rm sh w (mvT (1000 + 2 * k0) :: As) z) (cw : CallW R s args own "java/lang/String" idx y bytes maxL ret ws rm 0 0 n) (hs : tb.2.2.1[k0]? = some x) (hn : As.length = n) (hnl : L.length = nL) (hst : Nat.ble st.length 8 = true) (hroom : cells ≤ R.cells ∧ slots ≤ R.slots) (hd : decode cc pc = .ok (.invokevirtual idx, 3)) (hstk : As.reverse ++ mvT (1000 + 2 * k0) :: st = st0)
    (kk : ∀ z, f = some z → EV p l e R s m args below meth c D cl cI cC td A G Q cells slots sh L (.inl z.1 :: st) (pc + 3) z.2 (g z)) : EV p l e R s m args below meth c D cl cI cC td A G Q cells slots sh L st0 pc w (f.bind g) := fun z hz ad H locs ls hG hl hP hD hS => by
  obtain ⟨v, hf, hg⟩ := Option.bind_eq_some_iff.mp hz
  have hfree := mv_hfree hX hD hS
  subst hstk
  obtain ⟨aS, tS, hS1, -, -, hO, -⟩ := hX.sta.2.2.1 k0 _ hs
  rw [show (As.reverse ++ mvT (1000 + 2 * k0) :: st).map (mv_val td ad) = (As.map (mv_val td ad)).reverse ++ Value.ref aS :: st.map (mv_val td ad) by simp [mv_val, mvT, hS1, va_rf]]
  refine va_calli (S := Unit) (va_runV (b := aS) (As := As.map (mv_val td ad)) (rest := st.map (mv_val td ad)) ⟨hX.x, hX.b, hX.ml, hX.o, hX.ts⟩ (hM v hf ad H.size) cw ⟨mv_Pre_blind _ _ _ _ _ _ _ _ _ _ _, mv_recvO hO hS, fun U hU hW => (by have h9 := mv_pre hX hP hD hS (mvT (1000 + 2 * k0) :: As) U hU hW; rw [List.map_cons, mv_valT ad hS1] at h9; exact h9)⟩ rfl (by rw [List.length_map]; exact hn) (hl.1.trans hnl) rfl (lv_room (by rw [mv_cats]; exact Nat.le_of_ble_eq_true hst)) hd hroom) hS (fun q _ h => hfree q h) hfree (fun r u t H1 locs1 ht hvm hpost hB hz1 hk1 hS2 => ?_)
  subst hpost
  subst ht
  exact kk v hf z hg ad t.heap locs1 ls hG hl hB.1 (hB.2.weaken (fun k q _ h => hfree q.1 h)) hS2
theorem ev_callgN (hX : mv_X p s m args meth c D cl cI cC tb td A cc nL own Ts) {y : MethodName} {ws : List Cond} {rm : Room} {bytes : ByteArray} {maxL n idx k0 n0 nn mc ms : Nat} {st0 As : List mvV} {f : Option mvW} {sh' : List mvSh} {g : mvW → Option ρ} (hM : ∀ z, f = some z → mv_Cg l D cl cI cC tb td y ws rm sh sh' w (mvC k0 :: As) mc ms z) {host : String} (cw : va_CN R s args own idx y host bytes maxL none ws rm mc ms n ∧ y.name = "<init>" ∧ (Cond.instanceMethod y).before args s = true) (hn : As.length = n) (hnl : L.length = nL) (hst : Nat.ble st.length 8 = true) (hroom : cells + mc ≤ R.cells ∧ slots + ms ≤ R.slots) (hnn : sh.length = nn) (hokL : mv_okL nn L = true) (hokS : mv_okS nn st = true) (hn0 : Nat.ble n0 nn = true) (hd : decode cc pc = .ok (.invokespecial idx, 3)) (hstk : As.reverse ++ mvC k0 :: st = st0)
    (kk : ∀ z, f = some z → EV p l e R s m args below meth c D cl cI cC td A (fun a => ∀ k, k < n0 → a k = ad0 k) Q (cells + mc) (slots + ms) sh' L st (pc + 3) z (g z)) : EV p l e R s m args below meth c D cl cI cC td A (fun a => ∀ k, k < n0 → a k = ad0 k) Q cells slots sh L st0 pc w (f.bind g) := fun z hz ad H locs ls hG hl hP hD hS => by
  obtain ⟨v, hf, hg⟩ := Option.bind_eq_some_iff.mp hz
  have hfree := mv_hfree hX hD hS
  subst hstk
  subst hnn
  rw [show (As.reverse ++ mvC k0 :: st).map (mv_val td ad) = (As.map (mv_val td ad)).reverse ++ Value.ref (ad k0) :: st.map (mv_val td ad) by simp [mv_val, mvC]]
  refine va_callv (va_runIN (b := ad k0) (As := As.map (mv_val td ad)) (rest := st.map (mv_val td ad)) ⟨hX.x, hX.b, hX.ml, hX.o, hX.ts⟩ (hM v hf ad H.size) cw ⟨mv_Pre_blind _ _ _ _ _ _ _ _ _ _ _, fun U hU hW => mv_pre hX hP hD hS (mvC k0 :: As) U hU hW⟩ rfl (by rw [List.length_map]; exact hn) (hl.1.trans hnl) rfl (lv_room (by rw [mv_cats]; exact Nat.le_of_ble_eq_true hst)) hd hroom) hS (fun q _ h => hfree q h) hfree (fun ad' t H1 locs1 ht hvm hag hB hz1 hk1 hS1 => ?_)
  subst ht
  have hn0' := Nat.le_of_ble_eq_true hn0
  have h2 := kk v hf z hg ad' t.heap locs1 ls (fun k hk => by rw [hag k (by omega)]; exact hG k hk) (hl.ext hag hokL) hB.1 (hB.2.weaken (fun k q _ h => hfree q.1 h)) hS1
  rw [mv_okS_map hag hokS] at h2
  exact h2

def mv_nr (ty : FieldType) (v : Int32) (w : mvW) : Option (Int32 × mvW) := if vp_nar ty v = v then some (v, w) else none
theorem ev_iretc (hX : mv_X p s m args meth c D cl cI cC tb td A cc nL own Ts) (hr : meth.sig.returnType = some .char) {v : Int32} (hd : decode cc pc = .ok (.ireturn, 1)) : EV p l e R s m args below meth c D cl cI cC td A (fun a => a = ad0) (mv_Qi below args s D cl cI cC sh ad0 A) 0 0 sh L [.inl v] pc w (mv_nr .char v w) := fun z hz ad H locs ls hG hl hP hD hS => by
  unfold mv_nr at hz
  split at hz
  next hv =>
    cases hz; subst hG
    have hn : narrow .char (.int v) = .int v := by
      have e : narrow .char (.int v) = .int (vp_nar .char v) := rfl
      rw [e, hv]
    exact W.zret (v := v) hX.x hX.b hr hn (fun t ht hW => ⟨⟨v, (), rfl, rfl, by rw [ht]; exact hP, hD⟩, hS.F ht⟩) hS.2.2 hd (hlocks := hX.lk)
  next => cases hz
theorem ev_iretb (hX : mv_X p s m args meth c D cl cI cC tb td A cc nL own Ts) (hr : meth.sig.returnType = some .byte) {v : Int32} (hd : decode cc pc = .ok (.ireturn, 1)) : EV p l e R s m args below meth c D cl cI cC td A (fun a => a = ad0) (mv_Qi below args s D cl cI cC sh ad0 A) 0 0 sh L [.inl v] pc w (mv_nr .byte v w) := fun z hz ad H locs ls hG hl hP hD hS => by
  unfold mv_nr at hz
  split at hz
  next hv =>
    cases hz; subst hG
    have hn : narrow .byte (.int v) = .int v := by
      have e : narrow .byte (.int v) = .int (vp_nar .byte v) := rfl
      rw [e, hv]
    exact W.zret (v := v) hX.x hX.b hr hn (fun t ht hW => ⟨⟨v, (), rfl, rfl, by rw [ht]; exact hP, hD⟩, hS.F ht⟩) hS.2.2 hd (hlocks := hX.lk)
  next => cases hz
end MV3
