/-! rows of the law's own body: the script's numbers, a method that makes a row and lets it go, the end -/
def cellV (L : Nat) (xs : Nat → Int32) (k : Int32) : Int32 := if Int32.ofNat L ≤ k then 7919 * (k + 3) * (k + 11) else xs k.toNatClampNeg
def rm_L_cell : Room := { frames := 0, cells := 0, slots := 0, locals := 0 }
def mv_Pcell (b L : Nat) (xs : Nat → Int32) (k : Int32) (sz : Nat) : Array Value → State → Prop := va_Pc [.ref b, .int k] (fun U => U.heap.size = sz ∧ va_X b L xs U U.heap ∧ b < sz)
theorem mv_Pcell_blind (b L : Nat) (xs : Nat → Int32) (k : Int32) (sz : Nat) : FrameBlind (mv_Pcell b L xs k sz) := fun a U g mk q => by
  obtain ⟨q0, q1, q2, q3⟩ := q
  exact ⟨q0, q1, va_X.moved (u := U) (U := U.calling g mk a) (Vm.Alike.refl U.vm) q2, q3⟩
theorem c_L_cell (l : Launch) {b L : Nat} {xs : Nat → Int32} {k : Int32} (hk : ¬ k < 0) (hL : L < 2 ^ 31) (sz : Nat) : Met l yL_cell wsL_cell rm_L_cell (mv_Pcell b L xs k sz) (va_Qi (fun (r : Int32) (_ : Unit) => r = cellV L xs k) (fun _ _ => True) (fun q => sz ≤ q)) 0 0 (fun q => sz ≤ q) := by
  refine Met.ofW (cc := cL_cell) (maxL := 2) (ret := some .int) (by decide) rfl ?_
  intro p e s m args below meth c s₁ B hml hv
  obtain ⟨rfl, hsz, hX, hbl⟩ := hv
  subst hsz
  have hx := B.exec
  have hb := B.bytes
  have hr := B.returns
  have hlk := B.notSynchronized
  have hbA : ¬ (fun q : Nat => s.heap.size ≤ q) b := Nat.not_le.mpr hbl
  have hS : va_S (fun q : Nat => s.heap.size ≤ q) s.heap s.heap [] := va_S.rf
  have hl := lv_entry ([.ref b, .int k]) (n := 2) (Nat.le_of_ble_eq_true rfl)
  rw [lg_entry_eq]
  generalize (lg_sl ([.ref b, .int k]) ++ List.replicate (2 - (lg_sl ([.ref b, .int k])).length) Slot.unset).toArray = ls at hl ⊢
  have hl : lv_has ls 2 [(0, .ref b), (1, .int k)] := hl
  refine lv_iload_n hx hb dL_cell_0 rfl (lv_at hl 1 rfl) ?_
  refine lv_aload_n hx hb dL_cell_1 rfl (lv_at hl 0 rfl) ?_
  refine va_slen hx hb hX hbl hbA hS dL_cell_2 ?_
  refine lv_icmp_ge (tgt := 12) hx hb dL_cell_3 (by decide) (fun hc => ?_) (fun hc => ?_)
  · refine lv_sipush (v := 7919) hx hb dL_cell_12 (by decide) ?_
    refine lv_iload_n hx hb dL_cell_15 rfl (lv_at hl 1 rfl) ?_
    refine lv_iconst (v := 3) hx hb dL_cell_16 (by decide) ?_
    refine lv_iadd hx hb dL_cell_17 ?_
    refine lv_imul hx hb dL_cell_18 ?_
    refine lv_iload_n hx hb dL_cell_19 rfl (lv_at hl 1 rfl) ?_
    refine lv_bipush (v := 11) hx hb dL_cell_20 (by decide) ?_
    refine lv_iadd hx hb dL_cell_22 ?_
    refine lv_imul hx hb dL_cell_23 ?_
    exact W.iret (v := 7919 * (k + 3) * (k + 11)) hx hb hr (fun t ht hW => ⟨⟨_, (), rfl, by unfold cellV; rw [if_pos hc], trivial⟩, hS.F ht⟩) hS.2.2 dL_cell_24 (hlocks := hlk)
  · have hin : vp_in k L := by
      rw [vp_in_iff]
      have h0 : (0 : Int32) ≤ k := Int32.not_lt.mp hk
      rw [Int32.le_iff_toInt_le] at h0
      have e0 : (0 : Int32).toInt = 0 := rfl
      have h1 : k < Int32.ofNat L := Int32.not_le.mp hc
      rw [Int32.lt_iff_toInt_lt] at h1
      have e1 : (Int32.ofNat L).toInt = (L : Int) := nI_toInt hL
      omega
    refine lv_aload_n hx hb dL_cell_6 rfl (lv_at hl 0 rfl) ?_
    refine lv_iload_n hx hb dL_cell_7 rfl (lv_at hl 1 rfl) ?_
    refine va_sld hx hb hX hbl hbA hS hin dL_cell_8 ?_
    refine lv_goto (tgt := 24) hx hb dL_cell_9 (by decide) ?_
    exact W.iret (v := xs k.toNatClampNeg) hx hb hr (fun t ht hW => ⟨⟨_, (), rfl, by unfold cellV; rw [if_neg hc], trivial⟩, hS.F ht⟩) hS.2.2 dL_cell_24 (hlocks := hlk)
theorem va_lt {D : va_G} {cl : List vw_C} {H : Heap} : ∀ {q : Nat × va_E}, va_at D cl q H → q.1 < H.size
  | (_, .inl _), h => (Array.getElem?_eq_some_iff.mp h).1
  | (_, .inr _), h => by
    obtain ⟨q', h1, cell, g1, -⟩ := h
    exact (Array.getElem?_eq_some_iff.mp g1).1
section MV6
variable {p : Program} {l : Launch} {e : Env} {R : Room} {s : State} {m : MethodId} {args : Array Value} {below : List Frame} {meth : Method} {c : Code} {D : va_G} {cl : List vw_C} {cI cC : ClassId} {tb : mvTb} {td : Nat → Option Nat} {A : Nat → Prop} {G : (Nat → Nat) → Prop} {ρ : Type} {Q : ρ → State → Prop} {cells slots : Nat} {sh : List mvSh} {L : List (Option mvV)} {st : List mvV} {pc : Nat} {w : mvW} {r r1 r2 : Option ρ} {cc : ByteArray} {nL : Nat} {own : String} {Ts : List Cond} {ad0 : Nat → Nat}
theorem ev_callSa (hX : mv_X p s m args meth c D cl cI cC tb td A cc nL own Ts) {y : MethodName} {ws : List Cond} {rm : Room} {bytes : ByteArray} {maxL n idx mc ms : Nat} {ret : Option FieldType} {st0 As : List mvV} {f : Option (Int32 × mvW)} {g : Int32 × mvW → Option ρ} (hM : ∀ z, f = some z → mv_Ca l D cl cI cC tb td y ws rm sh w As mc ms z) (cw : CallB R s args own idx y bytes maxL ret ws rm mc ms n ∧ (Cond.static y).before args s = true) (hn : As.length = n) (hnl : L.length = nL) (hst : Nat.ble st.length 8 = true) (hroom : cells + mc ≤ R.cells ∧ slots + ms ≤ R.slots) (hd : decode cc pc = .ok (.invokestatic idx, 3)) (hstk : As.reverse ++ st = st0)
    (kk : ∀ z, f = some z → EV p l e R s m args below meth c D cl cI cC td A G Q (cells + mc) (slots + ms) sh L (.inl z.1 :: st) (pc + 3) z.2 (g z)) : EV p l e R s m args below meth c D cl cI cC td A G Q cells slots sh L st0 pc w (f.bind g) := fun z hz ad H locs ls hG hl hP hD hS => by
  obtain ⟨v, hf, hg⟩ := Option.bind_eq_some_iff.mp hz
  have hfree := mv_hfree hX hD hS
  subst hstk
  rw [show (As.reverse ++ st).map (mv_val td ad) = (As.map (mv_val td ad)).reverse ++ st.map (mv_val td ad) by simp]
  refine va_calli (S := Unit) (va_runS (As := As.map (mv_val td ad)) (rest := st.map (mv_val td ad)) ⟨hX.x, hX.b, hX.ml, hX.o, hX.ts⟩ (hM v hf ad H.size) cw ⟨mv_Pre_blind _ _ _ _ _ _ _ _ _ _ _, fun U hU hW => mv_pre hX hP hD hS As U hU hW⟩ rfl (by rw [List.length_map]; exact hn) (hl.1.trans hnl) rfl (lv_room (by rw [mv_cats]; exact Nat.le_of_ble_eq_true hst)) hd hroom) hS (fun q _ h => hfree q h) hfree (fun r u t H1 locs1 ht hvm hpost hB hz1 hk1 hS1 => ?_)
  subst hpost
  subst ht
  exact kk v hf z hg ad t.heap locs1 ls hG hl hB.1 (hB.2.weaken (fun k q _ h => hfree q.1 h)) hS1
theorem ev_cell (hX : mv_X p s m args meth c D cl cI cC tb td (fun q => s.heap.size ≤ q) cc nL own Ts) {bb Ln : Nat} {xs : Nat → Int32} (htd : td 3000 = some bb) (hscr : va_X bb Ln xs s s.heap) (hbl : bb < s.heap.size) (hLn : Ln < 2 ^ 31) {bytes : ByteArray} {maxL idx : Nat} {ret : Option FieldType} {k : Int32} (cw : CallB R s args own idx yL_cell bytes maxL ret wsL_cell rm_L_cell 0 0 2 ∧ (Cond.static yL_cell).before args s = true) (hnl : L.length = nL) (hst : Nat.ble st.length 8 = true) (hroom : cells ≤ R.cells ∧ slots ≤ R.slots) (hd : decode cc pc = .ok (.invokestatic idx, 3))
    (kk : EV p l e R s m args below meth c D cl cI cC td (fun q => s.heap.size ≤ q) G Q cells slots sh L (.inl (cellV Ln xs k) :: st) (pc + 3) w r) : EV p l e R s m args below meth c D cl cI cC td (fun q => s.heap.size ≤ q) G Q cells slots sh L (.inl k :: mvT 3000 :: st) pc w (if k < 0 then none else r) := fun z hz ad H locs ls hG hl hP hD hS => by
  by_cases hk : k < 0
  · rw [if_pos hk] at hz; cases hz
  · rw [if_neg hk] at hz
    have hbA : ¬ (fun q : Nat => s.heap.size ≤ q) bb := Nat.not_le.mpr hbl
    have hbl' : bb < H.size := Nat.lt_of_lt_of_le hbl hS.1
    have hX' : va_X bb Ln xs s H := hscr.kept (hS.2.1 bb hbl hbA)
    have e9 : ((mvI k :: mvT 3000 :: st).map (mv_val td ad)) = ([Value.ref bb, Value.int k] : List Value).reverse ++ st.map (mv_val td ad) := by
      rw [List.map_cons, List.map_cons, mv_valT ad htd]; rfl
    rw [e9]
    refine va_calli (S := Unit) (va_runS (As := [Value.ref bb, Value.int k]) (rest := st.map (mv_val td ad)) ⟨hX.x, hX.b, hX.ml, hX.o, hX.ts⟩ (c_L_cell l (b := bb) (xs := xs) hk hLn H.size) cw ⟨mv_Pcell_blind _ _ _ _ _, fun U hU hW => ?_⟩ rfl rfl (hl.1.trans hnl) rfl (lv_room (by rw [mv_cats]; exact Nat.le_of_ble_eq_true hst)) hd hroom) hS (fun q _ h => Nat.le_trans hS.1 h) (fun q h => Nat.le_trans hS.1 h) (fun r1 u t H1 locs1 ht hvm hpost hB hz1 hk1 hS1 => ?_)
    · subst hU
      exact ⟨rfl, rfl, hX'.moved hW.alike, hbl'⟩
    · subst hpost
      have hin : ∀ (j : Nat) (q : Nat × va_E), (mv_wl cI cC ad w 0 sh)[j]? = some q → H1[q.1]? = H[q.1]? := fun j q hj => hk1 q.1 (va_lt (hP j q hj)) (Nat.not_le.mpr (va_lt (hP j q hj)))
      exact kk z hz ad H1 locs1 ls hG hl (hP.kept hin) hD hS1
theorem ev_lawret {bb : Nat} (hX : mv_X p s m #[Value.ref bb] meth c D cl cI cC tb td (fun q => s.heap.size ≤ q) code nL own Ts) (hr : meth.sig.returnType = ret) {a b : Nat} (ha : a ≤ 600000) (hb : b ≤ 7302249) (hd : decode code pc = .ok (.ireturn, 1)) : EV p l e room_1 s m #[Value.ref bb] below meth c D cl cI cC td (fun q => s.heap.size ≤ q) G (fun (_ : ρ) => lw_Z below #[Value.ref bb] s) a b sh L [.inl 1] pc w r := fun z hz ad H locs ls hG hl hP hD hS => by
  refine W.widen (k := 600000) (n := 7302249) ha hb ?_
  refine va_forget (fun q hq => hS.2.2 q hq) ?_
  exact lw_ret hX.x hX.b hr hX.lk hd
end MV6
