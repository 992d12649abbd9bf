/-! more rows of the small machine: a divisor that is no written number; a cell into a local; an int answer of a method that makes a row and lets it go -/
section MV4
variable {p : Program} {l : Launch} {e : Env} {R : Room} {s : State} {m : MethodId} {args : Array Value} {below : List Frame} {meth : Method} {c : Code} {D : va_G} {cl : List vw_C} {cI cC : ClassId} {tb : mvTb} {td : Nat → Option Nat} {A : Nat → Prop} {G : (Nat → Nat) → Prop} {ρ : Type} {Q : ρ → State → Prop} {cells slots : Nat} {sh : List mvSh} {L : List (Option mvV)} {st : List mvV} {pc : Nat} {w : mvW} {r r1 r2 : Option ρ} {cc : ByteArray} {nL : Nat} {own : String} {Ts : List Cond} {ad0 : Nat → Nat}
theorem ev_iremv (hX : mv_X p s m args meth c D cl cI cC tb td A cc nL own Ts) {x y : Int32} (hd : decode cc pc = .ok (.irem, 1)) (k : ¬ y = 0 → EV p l e R s m args below meth c D cl cI cC td A G Q cells slots sh L (.inl (x - x / y * y) :: st) (pc + 1) w r) : EV p l e R s m args below meth c D cl cI cC td A G Q cells slots sh L (.inl y :: .inl x :: st) pc w (if y = 0 then none else r) := fun z hz ad H locs ls hG hl hP hD hS => by
  by_cases h : y = 0
  · rw [if_pos h] at hz; cases hz
  · rw [if_neg h] at hz
    exact lv_irem hX.x hX.b hd h (k h z hz ad H locs ls hG hl hP hD hS)
theorem ev_astore_n (hX : mv_X p s m args meth c D cl cI cC tb td A cc nL own Ts) {i : Fin 4} {x : Nat} {L' : List (Option mvV)} (hd : decode cc pc = .ok (.astore_n i, 1)) (hi : Nat.ble ((i : Nat) + 1) L.length = true) (hL : L.set (i : Nat) (some (mvC x)) = L') (k : EV p l e R s m args below meth c D cl cI cC td A G Q cells slots sh L' st (pc + 1) w r) : EV p l e R s m args below meth c D cl cI cC td A G Q cells slots sh L (mvC x :: st) pc w r := fun z hz ad H locs ls hG hl hP hD hS =>
  lv_astore_n hX.x hX.b hd rfl hl.has (Nat.le_of_ble_eq_true hi) rfl (fun ls' h => k z hz ad H locs ls' hG (hL ▸ mv_lh.set (x := mvC x) h) hP hD hS)
/-- an int comes back; new cells are made and let go; the world's cells are the same -/
def mv_Ca (l : Launch) (D : va_G) (cl : List vw_C) (cI cC : ClassId) (tb : mvTb) (td : Nat → Option Nat) (y : MethodName) (ws : List Cond) (rm : Room) (sh : List mvSh) (w : mvW) (av : List mvV) (mc ms : Nat) (z : Int32 × mvW) : Prop := ∀ (ad : Nat → Nat) (sz : Nat), Met l y ws rm (mv_Pre D cl cI cC tb td sh ad w sz av) (va_Qi (fun (r : Int32) (_ : Unit) => r = z.1) (fun _ t => mv_At D cl cI cC sh ad z.2 (va_A (mv_wl cI cC ad w 0 sh) sz) t) (va_A (mv_wl cI cC ad w 0 sh) sz)) mc ms (va_A (mv_wl cI cC ad w 0 sh) sz)
abbrev mv_Qa (below : List Frame) (args : Array Value) (s : State) (D : va_G) (cl : List vw_C) (cI cC : ClassId) (sh : List mvSh) (ad : Nat → Nat) (A : Nat → Prop) (mc ms : Nat) (z : Int32 × mvW) : State → Prop := MQ below (va_Qi (fun (r : Int32) (_ : Unit) => r = z.1) (fun _ t => mv_At D cl cI cC sh ad z.2 A t) A) args s mc ms A
theorem mv_wl_apps (cI cC : ClassId) (ad : Nat → Nat) (w : mvW) (ext : List mvSh) : ∀ (sh : List mvSh) (n : Nat), mv_wl cI cC ad w n (sh ++ ext) = mv_wl cI cC ad w n sh ++ mv_wl cI cC ad w (n + sh.length) ext
  | [], n => by simp [mv_wl]
  | y :: t, n => by
    rw [List.cons_append, mv_wl, mv_wl, List.cons_append, mv_wl_apps cI cC ad w ext t (n + 1), List.length_cons, show n + 1 + t.length = n + (t.length + 1) by omega]
theorem mv_wl_len (cI cC : ClassId) (ad : Nat → Nat) (w : mvW) : ∀ (sh : List mvSh) (n : Nat), (mv_wl cI cC ad w n sh).length = sh.length
  | [], n => rfl
  | y :: t, n => by rw [mv_wl, List.length_cons, List.length_cons, mv_wl_len cI cC ad w t (n + 1)]
theorem ev_airetz (hX : mv_X p s m args meth c D cl cI cC tb td A cc nL own Ts) (hr : meth.sig.returnType = some .boolean) {n0 mc ms : Nat} {v : Int32} {sh0 ext : List mvSh} (hv : v = 0 ∨ v = 1) (hsh : sh0 ++ ext = sh) (hn : sh0.length = n0) (hok : mv_okC n0 sh0 = true) (hmc : Nat.ble cells mc = true) (hms : Nat.ble slots ms = true) (hd : decode cc pc = .ok (.ireturn, 1)) : EV p l e R s m args below meth c D cl cI cC td A (fun a => ∀ k, k < n0 → a k = ad0 k) (mv_Qa below args s D cl cI cC sh0 ad0 A mc ms) cells slots sh L [.inl v] pc w (some (v, w)) := fun z hz ad H locs ls hG hl hP hD hS => by
  cases hz
  subst hsh
  subst hn
  have e0 : mv_wl cI cC ad w 0 sh0 = mv_wl cI cC ad0 w 0 sh0 := mv_wl_ext (N := sh0.length) cI cC hG (fun _ _ => rfl) sh0 0 (by omega) hok
  have ea := mv_wl_apps cI cC ad w ext sh0 0
  rw [ea, e0] at hP hD
  have hP' : va_P D cl (mv_wl cI cC ad0 w 0 sh0) H := fun k q h => hP k q (by rw [List.getElem?_append_left (List.getElem?_eq_some_iff.mp h).1]; exact h)
  have hD' : va_D A (mv_wl cI cC ad0 w 0 sh0) := ⟨fun i j p q h1 h2 h3 => hD.1 i j p q (by rw [List.getElem?_append_left (List.getElem?_eq_some_iff.mp h1).1]; exact h1) (by rw [List.getElem?_append_left (List.getElem?_eq_some_iff.mp h2).1]; exact h2) h3, fun k q h => hD.2 k q (by rw [List.getElem?_append_left (List.getElem?_eq_some_iff.mp h).1]; exact h)⟩
  refine W.widen (Nat.le_of_ble_eq_true hmc) (Nat.le_of_ble_eq_true hms) ?_
  exact W.zret (v := v) hX.x hX.b hr (by rcases hv with rfl | rfl <;> rfl) (fun t ht hW => ⟨⟨v, (), rfl, rfl, by rw [ht]; exact hP', hD'⟩, hS.F ht⟩) hS.2.2 hd (hlocks := hX.lk)
theorem ev_airetz0 (hX : mv_X p s m args meth c D cl cI cC tb td A cc nL own Ts) (hr : meth.sig.returnType = some .boolean) {n0 mc ms : Nat} {sh0 ext : List mvSh} (hsh : sh0 ++ ext = sh) (hn : sh0.length = n0) (hok : mv_okC n0 sh0 = true) (hmc : Nat.ble cells mc = true) (hms : Nat.ble slots ms = true) (hd : decode cc pc = .ok (.ireturn, 1)) : EV p l e R s m args below meth c D cl cI cC td A (fun a => ∀ k, k < n0 → a k = ad0 k) (mv_Qa below args s D cl cI cC sh0 ad0 A mc ms) cells slots sh L [.inl 0] pc w (some (0, w)) := ev_airetz hX hr (Or.inl rfl) hsh hn hok hmc hms hd
theorem ev_airetz1 (hX : mv_X p s m args meth c D cl cI cC tb td A cc nL own Ts) (hr : meth.sig.returnType = some .boolean) {n0 mc ms : Nat} {sh0 ext : List mvSh} (hsh : sh0 ++ ext = sh) (hn : sh0.length = n0) (hok : mv_okC n0 sh0 = true) (hmc : Nat.ble cells mc = true) (hms : Nat.ble slots ms = true) (hd : decode cc pc = .ok (.ireturn, 1)) : EV p l e R s m args below meth c D cl cI cC td A (fun a => ∀ k, k < n0 → a k = ad0 k) (mv_Qa below args s D cl cI cC sh0 ad0 A mc ms) cells slots sh L [.inl 1] pc w (some (1, w)) := ev_airetz hX hr (Or.inr rfl) hsh hn hok hmc hms hd
end MV4
section MV5
variable {l : Launch} {D : va_G} {cl : List vw_C} {cI cC : ClassId} {tb : mvTb} {td : Nat → Option Nat} {sh : List mvSh} {w : mvW} {y : MethodName} {ws ws' : List Cond} {rm : Room} {cc : ByteArray} {maxL : Nat} {av : List mvV} {L0 : List (Option mvV)}
theorem mv_starta {ty : FieldType} {f : Option (Int32 × mvW)} {mc ms : Nat} {own : String} (ho : y.cls = own) (hy : plainName y.cls = true) (hw : ws = Cond.code y cc maxL (some ty) :: ws') (hav : Nat.ble av.length maxL = true) (hL0 : av.map some ++ List.replicate (maxL - av.length) none = L0)
    (body : ∀ p e s m args below meth c A ad, mv_X p s m args meth c D cl cI cC tb td A cc maxL own ws → meth.sig.returnType = some ty → EV p l e (headSpec ws rm).room s m args below meth c D cl cI cC td A (fun a => ∀ k, k < sh.length → a k = ad k) (mv_Qa below args s D cl cI cC sh ad A mc ms) 0 0 sh L0 [] 0 w f) : ∀ z, f = some z → mv_Ca l D cl cI cC tb td y ws rm sh w av mc ms z := by
  intro z hz ad sz
  refine Met.ofW (cc := cc) (maxL := maxL) (ret := some ty) hy hw ?_
  intro p e s m args below meth c s₁ B hml hv
  obtain ⟨rfl, hsz, hP, hK, hD0, hSt⟩ := hv
  subst hsz
  have hD := hD0.self (sz := s.heap.size)
  have hA : ∀ q : Nat, s.heap.size ≤ q → va_A (mv_wl cI cC ad w 0 sh) s.heap.size q := fun q h => Or.inr h
  obtain ⟨ls, e1, e2⟩ := mv_entry td ad m av hav
  rw [e1]
  exact body p e s m _ below meth c _ ad ⟨B.exec, B.bytes, hml, ho ▸ findClass_of_methodNamed B.named, atoms_spec (ws := ws) B.pre, hA, hK, hSt, B.notSynchronized⟩ B.returns z hz ad s.heap [] ls (fun _ _ => rfl) (hL0 ▸ e2) hP hD va_S.rf
end MV5
