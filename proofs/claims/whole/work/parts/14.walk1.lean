section
variable {p : Program} {l : Launch} {e : Env} {s : State} {m : MethodId} {args : Array Value} {below : List Frame} {meth : Method} {c : Code} {D : va_G} {cI cC : ClassId} {td : Nat → Option Nat} {A : Nat → Prop} {ad0 : Nat → Nat}
def rm_X4_moveNumber : Room := { frames := 0, cells := 0, slots := 0, locals := 0 }
set_option maxHeartbeats 4000000 in
set_option maxRecDepth 100000 in
theorem c_X4_moveNumber (l : Launch) (D : va_G) (cI cC : ClassId) (td : Nat → Option Nat) (a0 : Int32) (a1 : Int32) (a2 : Int32) (w : mvW) : ∀ z, f_X4_moveNumber a0 a1 a2 w = some z → mv_Ci l D vwCl cI cC tbX td yX4_moveNumber wsX4_moveNumber rm_X4_moveNumber shX w [.inl a0, .inl a1, .inl a2] z := by
  refine mv_starti (own := RX4) rfl (by decide) rfl rfl (L0 := [some (.inl a0), some (.inl a1), some (.inl a2)]) rfl (fun p e s m args below meth c A ad0 hX hr => ?_)
  rw [f_X4_moveNumber]
  refine ev_bipush hX dX4_moveNumber_0 (v := 100) (by decide +kernel) ?_
  refine ev_iload_n hX dX4_moveNumber_2 rfl ?_
  refine ev_imul hX dX4_moveNumber_3 ?_
  refine ev_iload_n hX dX4_moveNumber_4 rfl ?_
  refine ev_iadd hX dX4_moveNumber_5 ?_
  refine ev_iload_n hX dX4_moveNumber_6 rfl ?_
  refine ev_if_eq (tgt := 16) hX dX4_moveNumber_7 (by decide) ?_ ?_
  · refine ev_iconst hX dX4_moveNumber_16 (v := 0) (by decide +kernel) ?_
    refine ev_iadd hX dX4_moveNumber_17 ?_
    exact ev_ireti hX hr dX4_moveNumber_18
  · refine ev_sipush hX dX4_moveNumber_10 (v := 10000) (by decide +kernel) ?_
    refine ev_goto (tgt := 17) hX dX4_moveNumber_13 (by decide) ?_
    refine ev_iadd hX dX4_moveNumber_17 ?_
    exact ev_ireti hX hr dX4_moveNumber_18
def rm_X2_setSideToPlay : Room := { frames := 0, cells := 0, slots := 0, locals := 0 }
set_option maxRecDepth 20000 in
theorem in_X2_setSideToPlay_X2 : ∀ w ∈ u_ws RX2 TX2 2, w ∈ wsX2_setSideToPlay := by decide +kernel
set_option maxHeartbeats 4000000 in
set_option maxRecDepth 100000 in
theorem c_X2_setSideToPlay (l : Launch) (D : va_G) (cI cC : ClassId) (td : Nat → Option Nat) (a1 : Int32) (w : mvW) : ∀ z, f_X2_setSideToPlay a1 w = some z → mv_Cv l D vwCl cI cC tbX td yX2_setSideToPlay wsX2_setSideToPlay rm_X2_setSideToPlay shX w [.inr (.inl 1), .inl a1] z := by
  refine mv_startv (own := RX2) rfl (by decide) rfl rfl (L0 := [some (.inr (.inl 1)), some (.inl a1)]) rfl (fun p e s m args below meth c A ad0 hX hr => ?_)
  rw [f_X2_setSideToPlay]
  refine ev_aload_n hX dX2_setSideToPlay_0 rfl ?_
  refine ev_getr (k := 0) hX (T := TX2) in_X2_setSideToPlay_X2 rfl rfl rfl (show Cond.fieldLink RX2 11 "FiveShogi$Position" "state" "[I" ∈ _ by decide +kernel) rfl dX2_setSideToPlay_1 ?_
  refine ev_bipush hX dX2_setSideToPlay_4 (v := 39) (by decide +kernel) ?_
  refine ev_iload_n hX dX2_setSideToPlay_6 rfl ?_
  refine ev_iastc (j := 39) hX rfl (by decide +kernel) dX2_setSideToPlay_7 ?_
  exact ev_vret hX hr dX2_setSideToPlay_8
def rm_X4_isHandKind : Room := { frames := 0, cells := 0, slots := 0, locals := 0 }
set_option maxHeartbeats 4000000 in
set_option maxRecDepth 100000 in
theorem c_X4_isHandKind (l : Launch) (D : va_G) (cI cC : ClassId) (td : Nat → Option Nat) (a0 : Int32) (w : mvW) : ∀ z, f_X4_isHandKind a0 w = some z → mv_Ci l D vwCl cI cC tbX td yX4_isHandKind wsX4_isHandKind rm_X4_isHandKind shX w [.inl a0] z := by
  refine mv_starti (own := RX4) rfl (by decide) rfl rfl (L0 := [some (.inl a0)]) rfl (fun p e s m args below meth c A ad0 hX hr => ?_)
  rw [f_X4_isHandKind]
  refine ev_iload_n hX dX4_isHandKind_0 rfl ?_
  refine ev_iconst hX dX4_isHandKind_1 (v := 1) (by decide +kernel) ?_
  refine ev_icmp_lt (tgt := 14) hX dX4_isHandKind_2 (by decide) ?_ ?_
  · refine ev_iconst hX dX4_isHandKind_14 (v := 0) (by decide +kernel) ?_
    exact ev_iretz0 hX hr dX4_isHandKind_15
  · refine ev_iload_n hX dX4_isHandKind_5 rfl ?_
    refine ev_iconst hX dX4_isHandKind_6 (v := 5) (by decide +kernel) ?_
    refine ev_icmp_gt (tgt := 14) hX dX4_isHandKind_7 (by decide) ?_ ?_
    · refine ev_iconst hX dX4_isHandKind_14 (v := 0) (by decide +kernel) ?_
      exact ev_iretz0 hX hr dX4_isHandKind_15
    · refine ev_iconst hX dX4_isHandKind_10 (v := 1) (by decide +kernel) ?_
      refine ev_goto (tgt := 15) hX dX4_isHandKind_11 (by decide) ?_
      exact ev_iretz1 hX hr dX4_isHandKind_15
def rm_X2_inHand : Room := { frames := 1, cells := 0, slots := 0, locals := 20 }
set_option maxRecDepth 20000 in
theorem in_X2_inHand_X2 : ∀ w ∈ u_ws RX2 TX2 2, w ∈ wsX2_inHand := by decide +kernel
set_option maxHeartbeats 4000000 in
set_option maxRecDepth 100000 in
theorem c_X2_inHand (l : Launch) (D : va_G) (cI cC : ClassId) (td : Nat → Option Nat) (a1 : Int32) (a2 : Int32) (w : mvW) : ∀ z, f_X2_inHand a1 a2 w = some z → mv_Ci l D vwCl cI cC tbX td yX2_inHand wsX2_inHand rm_X2_inHand shX w [.inr (.inl 1), .inl a1, .inl a2] z := by
  refine mv_starti (own := RX2) rfl (by decide) rfl rfl (L0 := [some (.inr (.inl 1)), some (.inl a1), some (.inl a2)]) rfl (fun p e s m args below meth c A ad0 hX hr => ?_)
  rw [f_X2_inHand]
  refine ev_iload_n hX dX2_inHand_0 rfl ?_
  refine ev_callNi hX (As := [.inl a1]) (rm := rm_X4_isSide) (c_X4_isSide l D cI cC td a1 w) ⟨va_cnB (host := "FiveShogi") 1 hX.ts gX2_inHand_X4_isSide_n38 rfl rfl rfl (hX.sta.2.1 (_, 38, _, _) (List.mem_of_getElem? (i := 11) rfl)) (hX.ts _ (show Cond.initialized RX4 ∈ _ by decide +kernel)) (by decide +kernel) ⟨Nat.le_of_ble_eq_true rfl, Nat.le_of_ble_eq_true rfl⟩, hX.ts _ (show Cond.static yX4_isSide ∈ _ by decide +kernel), trivial⟩ rfl rfl rfl ⟨Nat.le_of_ble_eq_true rfl, Nat.le_of_ble_eq_true rfl⟩ dX2_inHand_1 rfl (fun z1 hz1 => ?_)
  refine ev_if_eq (tgt := 31) hX dX2_inHand_4 (by decide) ?_ ?_
  · refine ev_iconst hX dX2_inHand_31 (v := 0) (by decide +kernel) ?_
    exact ev_ireti hX hr dX2_inHand_32
  · refine ev_iload_n hX dX2_inHand_7 rfl ?_
    refine ev_callNi hX (As := [.inl a2]) (rm := rm_X4_isHandKind) (c_X4_isHandKind l D cI cC td a2 z1.2) ⟨va_cnB (host := "FiveShogi") 1 hX.ts gX2_inHand_X4_isHandKind_n55 rfl rfl rfl (hX.sta.2.1 (_, 55, _, _) (List.mem_of_getElem? (i := 13) rfl)) (hX.ts _ (show Cond.initialized RX4 ∈ _ by decide +kernel)) (by decide +kernel) ⟨Nat.le_of_ble_eq_true rfl, Nat.le_of_ble_eq_true rfl⟩, hX.ts _ (show Cond.static yX4_isHandKind ∈ _ by decide +kernel), trivial⟩ rfl rfl rfl ⟨Nat.le_of_ble_eq_true rfl, Nat.le_of_ble_eq_true rfl⟩ dX2_inHand_8 rfl (fun z2 hz2 => ?_)
    refine ev_if_eq (tgt := 31) hX dX2_inHand_11 (by decide) ?_ ?_
    · refine ev_iconst hX dX2_inHand_31 (v := 0) (by decide +kernel) ?_
      exact ev_ireti hX hr dX2_inHand_32
    · refine ev_aload_n hX dX2_inHand_14 rfl ?_
      refine ev_getr (k := 0) hX (T := TX2) in_X2_inHand_X2 rfl rfl rfl (show Cond.fieldLink RX2 11 "FiveShogi$Position" "state" "[I" ∈ _ by decide +kernel) rfl dX2_inHand_15 ?_
      refine ev_bipush hX dX2_inHand_18 (v := 25) (by decide +kernel) ?_
      refine ev_iload_n hX dX2_inHand_20 rfl ?_
      refine ev_bipush hX dX2_inHand_21 (v := 6) (by decide +kernel) ?_
      refine ev_imul hX dX2_inHand_23 ?_
      refine ev_iadd hX dX2_inHand_24 ?_
      refine ev_iload_n hX dX2_inHand_25 rfl ?_
      refine ev_iadd hX dX2_inHand_26 ?_
      refine ev_iald hX rfl dX2_inHand_27 (fun j3 => ?_)
      refine ev_goto (tgt := 32) hX dX2_inHand_28 (by decide) ?_
      exact ev_ireti hX hr dX2_inHand_32
def rm_X2_setInHand : Room := { frames := 1, cells := 0, slots := 0, locals := 20 }
set_option maxRecDepth 20000 in
theorem in_X2_setInHand_X2 : ∀ w ∈ u_ws RX2 TX2 2, w ∈ wsX2_setInHand := by decide +kernel
set_option maxHeartbeats 4000000 in
set_option maxRecDepth 100000 in
theorem c_X2_setInHand (l : Launch) (D : va_G) (cI cC : ClassId) (td : Nat → Option Nat) (a1 : Int32) (a2 : Int32) (a3 : Int32) (w : mvW) : ∀ z, f_X2_setInHand a1 a2 a3 w = some z → mv_Cv l D vwCl cI cC tbX td yX2_setInHand wsX2_setInHand rm_X2_setInHand shX w [.inr (.inl 1), .inl a1, .inl a2, .inl a3] z := by
  refine mv_startv (own := RX2) rfl (by decide) rfl rfl (L0 := [some (.inr (.inl 1)), some (.inl a1), some (.inl a2), some (.inl a3)]) rfl (fun p e s m args below meth c A ad0 hX hr => ?_)
  rw [f_X2_setInHand]
  refine ev_iload_n hX dX2_setInHand_0 rfl ?_
  refine ev_callNi hX (As := [.inl a1]) (rm := rm_X4_isSide) (c_X4_isSide l D cI cC td a1 w) ⟨va_cnB (host := "FiveShogi") 1 hX.ts gX2_setInHand_X4_isSide_n38 rfl rfl rfl (hX.sta.2.1 (_, 38, _, _) (List.mem_of_getElem? (i := 11) rfl)) (hX.ts _ (show Cond.initialized RX4 ∈ _ by decide +kernel)) (by decide +kernel) ⟨Nat.le_of_ble_eq_true rfl, Nat.le_of_ble_eq_true rfl⟩, hX.ts _ (show Cond.static yX4_isSide ∈ _ by decide +kernel), trivial⟩ rfl rfl rfl ⟨Nat.le_of_ble_eq_true rfl, Nat.le_of_ble_eq_true rfl⟩ dX2_setInHand_1 rfl (fun z1 hz1 => ?_)
  refine ev_if_eq (tgt := 29) hX dX2_setInHand_4 (by decide) ?_ ?_
  · exact ev_vret hX hr dX2_setInHand_29
  · refine ev_iload_n hX dX2_setInHand_7 rfl ?_
    refine ev_callNi hX (As := [.inl a2]) (rm := rm_X4_isHandKind) (c_X4_isHandKind l D cI cC td a2 z1.2) ⟨va_cnB (host := "FiveShogi") 1 hX.ts gX2_setInHand_X4_isHandKind_n55 rfl rfl rfl (hX.sta.2.1 (_, 55, _, _) (List.mem_of_getElem? (i := 13) rfl)) (hX.ts _ (show Cond.initialized RX4 ∈ _ by decide +kernel)) (by decide +kernel) ⟨Nat.le_of_ble_eq_true rfl, Nat.le_of_ble_eq_true rfl⟩, hX.ts _ (show Cond.static yX4_isHandKind ∈ _ by decide +kernel), trivial⟩ rfl rfl rfl ⟨Nat.le_of_ble_eq_true rfl, Nat.le_of_ble_eq_true rfl⟩ dX2_setInHand_8 rfl (fun z2 hz2 => ?_)
    refine ev_if_eq (tgt := 29) hX dX2_setInHand_11 (by decide) ?_ ?_
    · exact ev_vret hX hr dX2_setInHand_29
    · refine ev_aload_n hX dX2_setInHand_14 rfl ?_
      refine ev_getr (k := 0) hX (T := TX2) in_X2_setInHand_X2 rfl rfl rfl (show Cond.fieldLink RX2 11 "FiveShogi$Position" "state" "[I" ∈ _ by decide +kernel) rfl dX2_setInHand_15 ?_
      refine ev_bipush hX dX2_setInHand_18 (v := 25) (by decide +kernel) ?_
      refine ev_iload_n hX dX2_setInHand_20 rfl ?_
      refine ev_bipush hX dX2_setInHand_21 (v := 6) (by decide +kernel) ?_
      refine ev_imul hX dX2_setInHand_23 ?_
      refine ev_iadd hX dX2_setInHand_24 ?_
      refine ev_iload_n hX dX2_setInHand_25 rfl ?_
      refine ev_iadd hX dX2_setInHand_26 ?_
      refine ev_iload_n hX dX2_setInHand_27 rfl ?_
      refine ev_iast hX rfl dX2_setInHand_28 (fun j3 => ?_)
      exact ev_vret hX hr dX2_setInHand_29
def rm_X2_changeHandForTaken : Room := { frames := 2, cells := 0, slots := 0, locals := 43 }
set_option maxHeartbeats 4000000 in
set_option maxRecDepth 100000 in
theorem e_X2_changeHandForTaken_28 (hX : mv_X p s m args meth c D vwCl cI cC tbX td A cX2_changeHandForTaken 6 RX2 wsX2_changeHandForTaken) (hr : meth.sig.returnType = none) (x1 : Int32) (x3 : Int32) (s0 : Int32) (w : mvW) : EV p l e (headSpec wsX2_changeHandForTaken rm_X2_changeHandForTaken).room s m args below meth c D vwCl cI cC td A (fun a => a = ad0) (mv_Qv below args s D vwCl cI cC shX ad0 A) 0 0 shX [some (.inr (.inl 1)), some (.inl x1), none, some (.inl x3), none, none] [.inl s0] 28 w (f_X2_changeHandForTaken_28 x1 x3 s0 w) := by
  rw [f_X2_changeHandForTaken_28]
  refine ev_istore hX dX2_changeHandForTaken_28 rfl (L' := [some (.inr (.inl 1)), some (.inl x1), none, some (.inl x3), none, some (.inl s0)]) rfl ?_
  refine ev_aload_n hX dX2_changeHandForTaken_30 rfl ?_
  refine ev_iload_n hX dX2_changeHandForTaken_31 rfl ?_
  refine ev_iload hX dX2_changeHandForTaken_32 rfl ?_
  refine ev_aload_n hX dX2_changeHandForTaken_34 rfl ?_
  refine ev_iload_n hX dX2_changeHandForTaken_35 rfl ?_
  refine ev_iload hX dX2_changeHandForTaken_36 rfl ?_
  refine ev_callVi hX (k0 := 1) (As := [.inl x1, .inl s0]) (rm := rm_X2_inHand) (c_X2_inHand l D cI cC td x1 s0 w) (cwV 2 hX.ts gX2_changeHandForTaken_X2_inHand rfl rfl rfl (by decide +kernel) ⟨Nat.le_of_ble_eq_true rfl, Nat.le_of_ble_eq_true rfl⟩) rfl rfl rfl rfl rfl rfl ⟨Nat.le_of_ble_eq_true rfl, Nat.le_of_ble_eq_true rfl⟩ dX2_changeHandForTaken_38 rfl (fun z2 hz2 => ?_)
  refine ev_iload_n hX dX2_changeHandForTaken_41 rfl ?_
  refine ev_iadd hX dX2_changeHandForTaken_42 ?_
  refine ev_callVv hX (k0 := 1) (As := [.inl x1, .inl s0, .inl (z2.1 + x3)]) (rm := rm_X2_setInHand) (c_X2_setInHand l D cI cC td x1 s0 (z2.1 + x3) z2.2) (cwV 3 hX.ts gX2_changeHandForTaken_X2_setInHand rfl rfl rfl (by decide +kernel) ⟨Nat.le_of_ble_eq_true rfl, Nat.le_of_ble_eq_true rfl⟩) rfl rfl rfl rfl rfl rfl ⟨Nat.le_of_ble_eq_true rfl, Nat.le_of_ble_eq_true rfl⟩ dX2_changeHandForTaken_43 rfl (fun z3 hz3 => ?_)
  exact ev_vret hX hr dX2_changeHandForTaken_46
set_option maxHeartbeats 4000000 in
set_option maxRecDepth 100000 in
theorem c_X2_changeHandForTaken (l : Launch) (D : va_G) (cI cC : ClassId) (td : Nat → Option Nat) (a1 : Int32) (a2 : Int32) (a3 : Int32) (w : mvW) : ∀ z, f_X2_changeHandForTaken a1 a2 a3 w = some z → mv_Cv l D vwCl cI cC tbX td yX2_changeHandForTaken wsX2_changeHandForTaken rm_X2_changeHandForTaken shX w [.inr (.inl 1), .inl a1, .inl a2, .inl a3] z := by
  refine mv_startv (own := RX2) rfl (by decide) rfl rfl (L0 := [some (.inr (.inl 1)), some (.inl a1), some (.inl a2), some (.inl a3), none, none]) rfl (fun p e s m args below meth c A ad0 hX hr => ?_)
  rw [f_X2_changeHandForTaken]
  refine ev_iload_n hX dX2_changeHandForTaken_0 rfl ?_
  refine ev_bipush hX dX2_changeHandForTaken_1 (v := 99) (by decide +kernel) ?_
  refine ev_icmp_ne (tgt := 7) hX dX2_changeHandForTaken_3 (by decide) ?_ ?_
  · refine ev_iload_n hX dX2_changeHandForTaken_7 rfl ?_
    refine ev_callNi hX (As := [.inl a2]) (rm := rm_X4_kindOf) (c_X4_kindOf l D cI cC td a2 w) ⟨va_cnB (host := "FiveShogi") 1 hX.ts gX2_changeHandForTaken_X4_kindOf_n48 rfl rfl rfl (hX.sta.2.1 (_, 48, _, _) (List.mem_of_getElem? (i := 3) rfl)) (hX.ts _ (show Cond.initialized RX4 ∈ _ by decide +kernel)) (by decide +kernel) ⟨Nat.le_of_ble_eq_true rfl, Nat.le_of_ble_eq_true rfl⟩, hX.ts _ (show Cond.static yX4_kindOf ∈ _ by decide +kernel), trivial⟩ rfl rfl rfl ⟨Nat.le_of_ble_eq_true rfl, Nat.le_of_ble_eq_true rfl⟩ dX2_changeHandForTaken_8 rfl (fun z1 hz1 => ?_)
    refine ev_istore hX dX2_changeHandForTaken_11 rfl (L' := [some (.inr (.inl 1)), some (.inl a1), some (.inl a2), some (.inl a3), some (.inl z1.1), none]) rfl ?_
    refine ev_iload hX dX2_changeHandForTaken_13 rfl ?_
    refine ev_iconst hX dX2_changeHandForTaken_15 (v := 5) (by decide +kernel) ?_
    refine ev_icmp_le (tgt := 26) hX dX2_changeHandForTaken_16 (by decide) ?_ ?_
    · refine ev_iload hX dX2_changeHandForTaken_26 rfl ?_
      refine ev_mask [true, true, false, true, false, false] (L' := [some (.inr (.inl 1)), some (.inl a1), none, some (.inl a3), none, none]) rfl rfl ?_
      exact e_X2_changeHandForTaken_28 hX hr a1 a3 z1.1 z1.2
    · refine ev_iload hX dX2_changeHandForTaken_19 rfl ?_
      refine ev_iconst hX dX2_changeHandForTaken_21 (v := 4) (by decide +kernel) ?_
      refine ev_isub hX dX2_changeHandForTaken_22 ?_
      refine ev_goto (tgt := 28) hX dX2_changeHandForTaken_23 (by decide) ?_
      refine ev_mask [true, true, false, true, false, false] (L' := [some (.inr (.inl 1)), some (.inl a1), none, some (.inl a3), none, none]) rfl rfl ?_
      exact e_X2_changeHandForTaken_28 hX hr a1 a3 (z1.1 - 4) z1.2
  · exact ev_vret hX hr dX2_changeHandForTaken_6
def rm_X4_manOf : Room := { frames := 0, cells := 0, slots := 0, locals := 0 }
set_option maxHeartbeats 4000000 in
set_option maxRecDepth 100000 in
theorem c_X4_manOf (l : Launch) (D : va_G) (cI cC : ClassId) (td : Nat → Option Nat) (a0 : Int32) (a1 : Int32) (w : mvW) : ∀ z, f_X4_manOf a0 a1 w = some z → mv_Ci l D vwCl cI cC tbX td yX4_manOf wsX4_manOf rm_X4_manOf shX w [.inl a0, .inl a1] z := by
  refine mv_starti (own := RX4) rfl (by decide) rfl rfl (L0 := [some (.inl a0), some (.inl a1)]) rfl (fun p e s m args below meth c A ad0 hX hr => ?_)
  rw [f_X4_manOf]
  refine ev_iload_n hX dX4_manOf_0 rfl ?_
  refine ev_bipush hX dX4_manOf_1 (v := 10) (by decide +kernel) ?_
  refine ev_imul hX dX4_manOf_3 ?_
  refine ev_iload_n hX dX4_manOf_4 rfl ?_
  refine ev_iadd hX dX4_manOf_5 ?_
  exact ev_ireti hX hr dX4_manOf_6
def rm_X2_apply : Room := { frames := 3, cells := 0, slots := 0, locals := 68 }
set_option maxHeartbeats 4000000 in
set_option maxRecDepth 100000 in
theorem c_X2_apply (l : Launch) (D : va_G) (cI cC : ClassId) (td : Nat → Option Nat) (a1 : Int32) (w : mvW) : ∀ z, f_X2_apply a1 w = some z → mv_Ci l D vwCl cI cC tbX td yX2_apply wsX2_apply rm_X2_apply shX w [.inr (.inl 1), .inl a1] z := by
  refine mv_starti (own := RX2) rfl (by decide) rfl rfl (L0 := [some (.inr (.inl 1)), some (.inl a1), none, none, none, none, none]) rfl (fun p e s m args below meth c A ad0 hX hr => ?_)
  rw [f_X2_apply]
  refine ev_aload_n hX dX2_apply_0 rfl ?_
  refine ev_callVi hX (k0 := 1) (As := []) (rm := rm_X2_sideToPlay) (c_X2_sideToPlay l D cI cC td w) (cwV 0 hX.ts gX2_apply_X2_sideToPlay rfl rfl rfl (by decide +kernel) ⟨Nat.le_of_ble_eq_true rfl, Nat.le_of_ble_eq_true rfl⟩) rfl rfl rfl rfl rfl rfl ⟨Nat.le_of_ble_eq_true rfl, Nat.le_of_ble_eq_true rfl⟩ dX2_apply_1 rfl (fun z1 hz1 => ?_)
  refine ev_istore_n hX dX2_apply_4 rfl (L' := [some (.inr (.inl 1)), some (.inl a1), some (.inl z1.1), none, none, none, none]) rfl ?_
  refine ev_iload_n hX dX2_apply_5 rfl ?_
  refine ev_bipush hX dX2_apply_6 (v := 100) (by decide +kernel) ?_
  refine ev_irem hX dX2_apply_8 (by decide) ?_
  refine ev_istore_n hX dX2_apply_9 rfl (L' := [some (.inr (.inl 1)), some (.inl a1), some (.inl z1.1), some (.inl (a1 - a1 / 100 * 100)), none, none, none]) rfl ?_
  refine ev_aload_n hX dX2_apply_10 rfl ?_
  refine ev_iconst hX dX2_apply_11 (v := 1) (by decide +kernel) ?_
  refine ev_iload_n hX dX2_apply_12 rfl ?_
  refine ev_isub hX dX2_apply_13 ?_
  refine ev_callVv hX (k0 := 1) (As := [.inl (1 - z1.1)]) (rm := rm_X2_setSideToPlay) (c_X2_setSideToPlay l D cI cC td (1 - z1.1) z1.2) (cwV 1 hX.ts gX2_apply_X2_setSideToPlay rfl rfl rfl (by decide +kernel) ⟨Nat.le_of_ble_eq_true rfl, Nat.le_of_ble_eq_true rfl⟩) rfl rfl rfl rfl rfl rfl ⟨Nat.le_of_ble_eq_true rfl, Nat.le_of_ble_eq_true rfl⟩ dX2_apply_14 rfl (fun z2 hz2 => ?_)
  refine ev_iload_n hX dX2_apply_17 rfl ?_
  refine ev_sipush hX dX2_apply_18 (v := 20000) (by decide +kernel) ?_
  refine ev_icmp_lt (tgt := 64) hX dX2_apply_21 (by decide) ?_ ?_
  · refine ev_iload_n hX dX2_apply_64 rfl ?_
    refine ev_sipush hX dX2_apply_65 (v := 10000) (by decide +kernel) ?_
    refine ev_irem hX dX2_apply_68 (by decide) ?_
    refine ev_bipush hX dX2_apply_69 (v := 100) (by decide +kernel) ?_
    refine ev_idiv hX dX2_apply_71 (by decide) ?_
    refine ev_istore hX dX2_apply_72 rfl (L' := [some (.inr (.inl 1)), some (.inl a1), some (.inl z1.1), some (.inl (a1 - a1 / 100 * 100)), some (.inl ((a1 - a1 / 10000 * 10000) / 100)), none, none]) rfl ?_
    refine ev_aload_n hX dX2_apply_74 rfl ?_
    refine ev_iload hX dX2_apply_75 rfl ?_
    refine ev_callVi hX (k0 := 1) (As := [.inl ((a1 - a1 / 10000 * 10000) / 100)]) (rm := rm_X2_manOn) (c_X2_manOn l D cI cC td ((a1 - a1 / 10000 * 10000) / 100) z2) (cwV 1 hX.ts gX2_apply_X2_manOn rfl rfl rfl (by decide +kernel) ⟨Nat.le_of_ble_eq_true rfl, Nat.le_of_ble_eq_true rfl⟩) rfl rfl rfl rfl rfl rfl ⟨Nat.le_of_ble_eq_true rfl, Nat.le_of_ble_eq_true rfl⟩ dX2_apply_77 rfl (fun z3 hz3 => ?_)
    refine ev_istore hX dX2_apply_80 rfl (L' := [some (.inr (.inl 1)), some (.inl a1), some (.inl z1.1), some (.inl (a1 - a1 / 100 * 100)), some (.inl ((a1 - a1 / 10000 * 10000) / 100)), some (.inl z3.1), none]) rfl ?_
    refine ev_aload_n hX dX2_apply_82 rfl ?_
    refine ev_iload_n hX dX2_apply_83 rfl ?_
    refine ev_callVi hX (k0 := 1) (As := [.inl (a1 - a1 / 100 * 100)]) (rm := rm_X2_manOn) (c_X2_manOn l D cI cC td (a1 - a1 / 100 * 100) z3.2) (cwV 1 hX.ts gX2_apply_X2_manOn rfl rfl rfl (by decide +kernel) ⟨Nat.le_of_ble_eq_true rfl, Nat.le_of_ble_eq_true rfl⟩) rfl rfl rfl rfl rfl rfl ⟨Nat.le_of_ble_eq_true rfl, Nat.le_of_ble_eq_true rfl⟩ dX2_apply_84 rfl (fun z4 hz4 => ?_)
    refine ev_istore hX dX2_apply_87 rfl (L' := [some (.inr (.inl 1)), some (.inl a1), some (.inl z1.1), some (.inl (a1 - a1 / 100 * 100)), some (.inl ((a1 - a1 / 10000 * 10000) / 100)), some (.inl z3.1), some (.inl z4.1)]) rfl ?_
    refine ev_aload_n hX dX2_apply_89 rfl ?_
    refine ev_iload_n hX dX2_apply_90 rfl ?_
    refine ev_iload hX dX2_apply_91 rfl ?_
    refine ev_iconst hX dX2_apply_93 (v := 1) (by decide +kernel) ?_
    refine ev_callVv hX (k0 := 1) (As := [.inl z1.1, .inl z4.1, .inl 1]) (rm := rm_X2_changeHandForTaken) (c_X2_changeHandForTaken l D cI cC td z1.1 z4.1 1 z4.2) (cwV 3 hX.ts gX2_apply_X2_changeHandForTaken rfl rfl rfl (by decide +kernel) ⟨Nat.le_of_ble_eq_true rfl, Nat.le_of_ble_eq_true rfl⟩) rfl rfl rfl rfl rfl rfl ⟨Nat.le_of_ble_eq_true rfl, Nat.le_of_ble_eq_true rfl⟩ dX2_apply_94 rfl (fun z5 hz5 => ?_)
    refine ev_aload_n hX dX2_apply_97 rfl ?_
    refine ev_iload hX dX2_apply_98 rfl ?_
    refine ev_bipush hX dX2_apply_100 (v := 99) (by decide +kernel) ?_
    refine ev_callVv hX (k0 := 1) (As := [.inl ((a1 - a1 / 10000 * 10000) / 100), .inl 99]) (rm := rm_X2_place) (c_X2_place l D cI cC td ((a1 - a1 / 10000 * 10000) / 100) 99 z5) (cwV 2 hX.ts gX2_apply_X2_place rfl rfl rfl (by decide +kernel) ⟨Nat.le_of_ble_eq_true rfl, Nat.le_of_ble_eq_true rfl⟩) rfl rfl rfl rfl rfl rfl ⟨Nat.le_of_ble_eq_true rfl, Nat.le_of_ble_eq_true rfl⟩ dX2_apply_102 rfl (fun z6 hz6 => ?_)
    refine ev_aload_n hX dX2_apply_105 rfl ?_
    refine ev_iload_n hX dX2_apply_106 rfl ?_
    refine ev_iload_n hX dX2_apply_107 rfl ?_
    refine ev_sipush hX dX2_apply_108 (v := 10000) (by decide +kernel) ?_
    refine ev_icmp_lt (tgt := 121) hX dX2_apply_111 (by decide) ?_ ?_
    · refine ev_iload hX dX2_apply_121 rfl ?_
      refine ev_callVv hX (k0 := 1) (As := [.inl (a1 - a1 / 100 * 100), .inl z3.1]) (rm := rm_X2_place) (c_X2_place l D cI cC td (a1 - a1 / 100 * 100) z3.1 z6) (cwV 2 hX.ts gX2_apply_X2_place rfl rfl rfl (by decide +kernel) ⟨Nat.le_of_ble_eq_true rfl, Nat.le_of_ble_eq_true rfl⟩) rfl rfl rfl rfl rfl rfl ⟨Nat.le_of_ble_eq_true rfl, Nat.le_of_ble_eq_true rfl⟩ dX2_apply_123 rfl (fun z7 hz7 => ?_)
      refine ev_iload hX dX2_apply_126 rfl ?_
      exact ev_ireti hX hr dX2_apply_128
    · refine ev_iload hX dX2_apply_114 rfl ?_
      refine ev_iconst hX dX2_apply_116 (v := 4) (by decide +kernel) ?_
      refine ev_iadd hX dX2_apply_117 ?_
      refine ev_goto (tgt := 123) hX dX2_apply_118 (by decide) ?_
      refine ev_callVv hX (k0 := 1) (As := [.inl (a1 - a1 / 100 * 100), .inl (z3.1 + 4)]) (rm := rm_X2_place) (c_X2_place l D cI cC td (a1 - a1 / 100 * 100) (z3.1 + 4) z6) (cwV 2 hX.ts gX2_apply_X2_place rfl rfl rfl (by decide +kernel) ⟨Nat.le_of_ble_eq_true rfl, Nat.le_of_ble_eq_true rfl⟩) rfl rfl rfl rfl rfl rfl ⟨Nat.le_of_ble_eq_true rfl, Nat.le_of_ble_eq_true rfl⟩ dX2_apply_123 rfl (fun z8 hz8 => ?_)
      refine ev_iload hX dX2_apply_126 rfl ?_
      exact ev_ireti hX hr dX2_apply_128
  · refine ev_iload_n hX dX2_apply_24 rfl ?_
    refine ev_sipush hX dX2_apply_25 (v := 20000) (by decide +kernel) ?_
    refine ev_isub hX dX2_apply_28 ?_
    refine ev_bipush hX dX2_apply_29 (v := 100) (by decide +kernel) ?_
    refine ev_idiv hX dX2_apply_31 (by decide) ?_
    refine ev_istore hX dX2_apply_32 rfl (L' := [some (.inr (.inl 1)), some (.inl a1), some (.inl z1.1), some (.inl (a1 - a1 / 100 * 100)), some (.inl ((a1 - 20000) / 100)), none, none]) rfl ?_
    refine ev_aload_n hX dX2_apply_34 rfl ?_
    refine ev_iload_n hX dX2_apply_35 rfl ?_
    refine ev_iload hX dX2_apply_36 rfl ?_
    refine ev_aload_n hX dX2_apply_38 rfl ?_
    refine ev_iload_n hX dX2_apply_39 rfl ?_
    refine ev_iload hX dX2_apply_40 rfl ?_
    refine ev_callVi hX (k0 := 1) (As := [.inl z1.1, .inl ((a1 - 20000) / 100)]) (rm := rm_X2_inHand) (c_X2_inHand l D cI cC td z1.1 ((a1 - 20000) / 100) z2) (cwV 2 hX.ts gX2_apply_X2_inHand rfl rfl rfl (by decide +kernel) ⟨Nat.le_of_ble_eq_true rfl, Nat.le_of_ble_eq_true rfl⟩) rfl rfl rfl rfl rfl rfl ⟨Nat.le_of_ble_eq_true rfl, Nat.le_of_ble_eq_true rfl⟩ dX2_apply_42 rfl (fun z9 hz9 => ?_)
    refine ev_iconst hX dX2_apply_45 (v := 1) (by decide +kernel) ?_
    refine ev_isub hX dX2_apply_46 ?_
    refine ev_callVv hX (k0 := 1) (As := [.inl z1.1, .inl ((a1 - 20000) / 100), .inl (z9.1 - 1)]) (rm := rm_X2_setInHand) (c_X2_setInHand l D cI cC td z1.1 ((a1 - 20000) / 100) (z9.1 - 1) z9.2) (cwV 3 hX.ts gX2_apply_X2_setInHand rfl rfl rfl (by decide +kernel) ⟨Nat.le_of_ble_eq_true rfl, Nat.le_of_ble_eq_true rfl⟩) rfl rfl rfl rfl rfl rfl ⟨Nat.le_of_ble_eq_true rfl, Nat.le_of_ble_eq_true rfl⟩ dX2_apply_47 rfl (fun z10 hz10 => ?_)
    refine ev_aload_n hX dX2_apply_50 rfl ?_
    refine ev_iload_n hX dX2_apply_51 rfl ?_
    refine ev_iload_n hX dX2_apply_52 rfl ?_
    refine ev_iload hX dX2_apply_53 rfl ?_
    refine ev_callNi hX (As := [.inl z1.1, .inl ((a1 - 20000) / 100)]) (rm := rm_X4_manOf) (c_X4_manOf l D cI cC td z1.1 ((a1 - 20000) / 100) z10) ⟨va_cnB (host := "FiveShogi") 2 hX.ts gX2_apply_X4_manOf_n88 rfl rfl rfl (hX.sta.2.1 (_, 88, _, _) (List.mem_of_getElem? (i := 14) rfl)) (hX.ts _ (show Cond.initialized RX4 ∈ _ by decide +kernel)) (by decide +kernel) ⟨Nat.le_of_ble_eq_true rfl, Nat.le_of_ble_eq_true rfl⟩, hX.ts _ (show Cond.static yX4_manOf ∈ _ by decide +kernel), trivial⟩ rfl rfl rfl ⟨Nat.le_of_ble_eq_true rfl, Nat.le_of_ble_eq_true rfl⟩ dX2_apply_55 rfl (fun z11 hz11 => ?_)
    refine ev_callVv hX (k0 := 1) (As := [.inl (a1 - a1 / 100 * 100), .inl z11.1]) (rm := rm_X2_place) (c_X2_place l D cI cC td (a1 - a1 / 100 * 100) z11.1 z11.2) (cwV 2 hX.ts gX2_apply_X2_place rfl rfl rfl (by decide +kernel) ⟨Nat.le_of_ble_eq_true rfl, Nat.le_of_ble_eq_true rfl⟩) rfl rfl rfl rfl rfl rfl ⟨Nat.le_of_ble_eq_true rfl, Nat.le_of_ble_eq_true rfl⟩ dX2_apply_58 rfl (fun z12 hz12 => ?_)
    refine ev_bipush hX dX2_apply_61 (v := 99) (by decide +kernel) ?_
    exact ev_ireti hX hr dX2_apply_63
def rm_X2_play : Room := { frames := 4, cells := 0, slots := 0, locals := 94 }
set_option maxRecDepth 20000 in
theorem in_X2_play_X2 : ∀ w ∈ u_ws RX2 TX2 2, w ∈ wsX2_play := by decide +kernel
set_option maxHeartbeats 4000000 in
set_option maxRecDepth 100000 in
theorem e_X2_play_34 (hX : mv_X p s m args meth c D vwCl cI cC tbX td A cX2_play 3 RX2 wsX2_play) (hr : meth.sig.returnType = (some .int)) (x1 : Int32) (x2 : Int32) (w : mvW) : EV p l e (headSpec wsX2_play rm_X2_play).room s m args below meth c D vwCl cI cC td A (fun a => a = ad0) (mv_Qi below args s D vwCl cI cC shX ad0 A) 0 0 shX [some (.inr (.inl 1)), some (.inl x1), some (.inl x2)] [] 34 w (f_X2_play_34 x1 x2 w) := by
  rw [f_X2_play_34]
  refine ev_iload_n hX dX2_play_34 rfl ?_
  refine ev_sipush hX dX2_play_35 (v := 20000) (by decide +kernel) ?_
  refine ev_icmp_lt (tgt := 55) hX dX2_play_38 (by decide) ?_ ?_
  · refine ev_iload_n hX dX2_play_55 rfl ?_
    refine ev_sipush hX dX2_play_56 (v := 10000) (by decide +kernel) ?_
    refine ev_icmp_lt (tgt := 73) hX dX2_play_59 (by decide) ?_ ?_
    · refine ev_iload_n hX dX2_play_73 rfl ?_
      exact ev_ireti hX hr dX2_play_74
    · refine ev_aload_n hX dX2_play_62 rfl ?_
      refine ev_getr (k := 0) hX (T := TX2) in_X2_play_X2 rfl rfl rfl (show Cond.fieldLink RX2 11 "FiveShogi$Position" "state" "[I" ∈ _ by decide +kernel) rfl dX2_play_63 ?_
      refine ev_bipush hX dX2_play_66 (v := 42) (by decide +kernel) ?_
      refine ev_dup2 hX dX2_play_68 ?_
      refine ev_ialdc (j := 42) hX rfl (by decide +kernel) dX2_play_69 ?_
      refine ev_iconst hX dX2_play_70 (v := 1) (by decide +kernel) ?_
      refine ev_iadd hX dX2_play_71 ?_
      refine ev_iastc (j := 42) hX rfl (by decide +kernel) dX2_play_72 ?_
      refine ev_iload_n hX dX2_play_73 rfl ?_
      exact ev_ireti hX hr dX2_play_74
  · refine ev_aload_n hX dX2_play_41 rfl ?_
    refine ev_getr (k := 0) hX (T := TX2) in_X2_play_X2 rfl rfl rfl (show Cond.fieldLink RX2 11 "FiveShogi$Position" "state" "[I" ∈ _ by decide +kernel) rfl dX2_play_42 ?_
    refine ev_bipush hX dX2_play_45 (v := 43) (by decide +kernel) ?_
    refine ev_dup2 hX dX2_play_47 ?_
    refine ev_ialdc (j := 43) hX rfl (by decide +kernel) dX2_play_48 ?_
    refine ev_iconst hX dX2_play_49 (v := 1) (by decide +kernel) ?_
    refine ev_iadd hX dX2_play_50 ?_
    refine ev_iastc (j := 43) hX rfl (by decide +kernel) dX2_play_51 ?_
    refine ev_goto (tgt := 73) hX dX2_play_52 (by decide) ?_
    refine ev_iload_n hX dX2_play_73 rfl ?_
    exact ev_ireti hX hr dX2_play_74
set_option maxHeartbeats 4000000 in
set_option maxRecDepth 100000 in
theorem c_X2_play (l : Launch) (D : va_G) (cI cC : ClassId) (td : Nat → Option Nat) (a1 : Int32) (w : mvW) : ∀ z, f_X2_play a1 w = some z → mv_Ci l D vwCl cI cC tbX td yX2_play wsX2_play rm_X2_play shX w [.inr (.inl 1), .inl a1] z := by
  refine mv_starti (own := RX2) rfl (by decide) rfl rfl (L0 := [some (.inr (.inl 1)), some (.inl a1), none]) rfl (fun p e s m args below meth c A ad0 hX hr => ?_)
  rw [f_X2_play]
  refine ev_aload_n hX dX2_play_0 rfl ?_
  refine ev_iload_n hX dX2_play_1 rfl ?_
  refine ev_callVi hX (k0 := 1) (As := [.inl a1]) (rm := rm_X2_apply) (c_X2_apply l D cI cC td a1 w) (cwV 1 hX.ts gX2_play_X2_apply rfl rfl rfl (by decide +kernel) ⟨Nat.le_of_ble_eq_true rfl, Nat.le_of_ble_eq_true rfl⟩) rfl rfl rfl rfl rfl rfl ⟨Nat.le_of_ble_eq_true rfl, Nat.le_of_ble_eq_true rfl⟩ dX2_play_2 rfl (fun z1 hz1 => ?_)
  refine ev_istore_n hX dX2_play_5 rfl (L' := [some (.inr (.inl 1)), some (.inl a1), some (.inl z1.1)]) rfl ?_
  refine ev_aload_n hX dX2_play_6 rfl ?_
  refine ev_getr (k := 0) hX (T := TX2) in_X2_play_X2 rfl rfl rfl (show Cond.fieldLink RX2 11 "FiveShogi$Position" "state" "[I" ∈ _ by decide +kernel) rfl dX2_play_7 ?_
  refine ev_bipush hX dX2_play_10 (v := 40) (by decide +kernel) ?_
  refine ev_dup2 hX dX2_play_12 ?_
  refine ev_ialdc (j := 40) hX rfl (by decide +kernel) dX2_play_13 ?_
  refine ev_iconst hX dX2_play_14 (v := 1) (by decide +kernel) ?_
  refine ev_iadd hX dX2_play_15 ?_
  refine ev_iastc (j := 40) hX rfl (by decide +kernel) dX2_play_16 ?_
  refine ev_iload_n hX dX2_play_17 rfl ?_
  refine ev_bipush hX dX2_play_18 (v := 99) (by decide +kernel) ?_
  refine ev_icmp_eq (tgt := 34) hX dX2_play_20 (by decide) ?_ ?_
  · refine ev_mask [true, true, true] (L' := [some (.inr (.inl 1)), some (.inl a1), some (.inl z1.1)]) rfl rfl ?_
    exact e_X2_play_34 hX hr a1 z1.1 (mv_up z1.2 2 40 ((z1.2 2 40) + 1))
  · refine ev_aload_n hX dX2_play_23 rfl ?_
    refine ev_getr (k := 0) hX (T := TX2) in_X2_play_X2 rfl rfl rfl (show Cond.fieldLink RX2 11 "FiveShogi$Position" "state" "[I" ∈ _ by decide +kernel) rfl dX2_play_24 ?_
    refine ev_bipush hX dX2_play_27 (v := 41) (by decide +kernel) ?_
    refine ev_dup2 hX dX2_play_29 ?_
    refine ev_ialdc (j := 41) hX rfl (by decide +kernel) dX2_play_30 ?_
    refine ev_iconst hX dX2_play_31 (v := 1) (by decide +kernel) ?_
    refine ev_iadd hX dX2_play_32 ?_
    refine ev_iastc (j := 41) hX rfl (by decide +kernel) dX2_play_33 ?_
    refine ev_mask [true, true, true] (L' := [some (.inr (.inl 1)), some (.inl a1), some (.inl z1.1)]) rfl rfl ?_
    exact e_X2_play_34 hX hr a1 z1.1 (mv_up (mv_up z1.2 2 40 ((z1.2 2 40) + 1)) 2 41 (((mv_up z1.2 2 40 ((z1.2 2 40) + 1)) 2 41) + 1))
def rm_X4_move : Room := { frames := 5, cells := 0, slots := 0, locals := 116 }
set_option maxRecDepth 20000 in
theorem in_X4_move_X4 : ∀ w ∈ u_ws RX4 TX4 7, w ∈ wsX4_move := by decide +kernel
set_option maxHeartbeats 4000000 in
set_option maxRecDepth 100000 in
theorem c_X4_move (l : Launch) (D : va_G) (cI cC : ClassId) (td : Nat → Option Nat) (a1 : Int32) (a2 : Int32) (a3 : Int32) (w : mvW) : ∀ z, f_X4_move a1 a2 a3 w = some z → mv_Ci l D vwCl cI cC tbX td yX4_move wsX4_move rm_X4_move shX w [.inr (.inl 0), .inl a1, .inl a2, .inl a3] z := by
  refine mv_starti (own := RX4) rfl (by decide) rfl rfl (L0 := [some (.inr (.inl 0)), some (.inl a1), some (.inl a2), some (.inl a3)]) rfl (fun p e s m args below meth c A ad0 hX hr => ?_)
  rw [f_X4_move]
  refine ev_iload_n hX dX4_move_0 rfl ?_
  refine ev_callSi hX (As := [.inl a1]) (rm := rm_X4_isSquare) (c_X4_isSquare l D cI cC td a1 w) (cwS 1 hX.ts gX4_move_X4_isSquare rfl rfl rfl (by decide +kernel) ⟨Nat.le_of_ble_eq_true rfl, Nat.le_of_ble_eq_true rfl⟩) rfl rfl rfl ⟨Nat.le_of_ble_eq_true rfl, Nat.le_of_ble_eq_true rfl⟩ dX4_move_1 rfl (fun z1 hz1 => ?_)
  refine ev_if_eq (tgt := 14) hX dX4_move_4 (by decide) ?_ ?_
  · refine ev_sipush hX dX4_move_14 (v := (-1001)) (by decide +kernel) ?_
    exact ev_ireti hX hr dX4_move_17
  · refine ev_iload_n hX dX4_move_7 rfl ?_
    refine ev_callSi hX (As := [.inl a2]) (rm := rm_X4_isSquare) (c_X4_isSquare l D cI cC td a2 z1.2) (cwS 1 hX.ts gX4_move_X4_isSquare rfl rfl rfl (by decide +kernel) ⟨Nat.le_of_ble_eq_true rfl, Nat.le_of_ble_eq_true rfl⟩) rfl rfl rfl ⟨Nat.le_of_ble_eq_true rfl, Nat.le_of_ble_eq_true rfl⟩ dX4_move_8 rfl (fun z2 hz2 => ?_)
    refine ev_if_ne (tgt := 18) hX dX4_move_11 (by decide) ?_ ?_
    · refine ev_aload_n hX dX4_move_18 rfl ?_
      refine ev_getr (k := 1) hX (T := TX4) in_X4_move_X4 rfl rfl rfl (show Cond.fieldLink RX4 21 "FiveShogi" "rules" "LFiveShogi$Rules;" ∈ _ by decide +kernel) rfl dX4_move_19 ?_
      refine ev_iload_n hX dX4_move_22 rfl ?_
      refine ev_iload_n hX dX4_move_23 rfl ?_
      refine ev_iload_n hX dX4_move_24 rfl ?_
      refine ev_callVi hX (k0 := 4) (As := [.inl a1, .inl a2, .inl a3]) (rm := rm_X3_whyNoMove) (c_X3_whyNoMove l D cI cC td a1 a2 a3 z2.2) (cwV 3 hX.ts gX4_move_X3_whyNoMove rfl rfl rfl (by decide +kernel) ⟨Nat.le_of_ble_eq_true rfl, Nat.le_of_ble_eq_true rfl⟩) rfl rfl rfl rfl rfl rfl ⟨Nat.le_of_ble_eq_true rfl, Nat.le_of_ble_eq_true rfl⟩ dX4_move_25 rfl (fun z3 hz3 => ?_)
      refine ev_if_eq (tgt := 35) hX dX4_move_28 (by decide) ?_ ?_
      · refine ev_aload_n hX dX4_move_35 rfl ?_
        refine ev_callVv hX (k0 := 0) (As := []) (rm := rm_X4_recordChange) (c_X4_recordChange l D cI cC td z3.2) (cwV 0 hX.ts gX4_move_X4_recordChange rfl rfl rfl (by decide +kernel) ⟨Nat.le_of_ble_eq_true rfl, Nat.le_of_ble_eq_true rfl⟩) rfl rfl rfl rfl rfl rfl ⟨Nat.le_of_ble_eq_true rfl, Nat.le_of_ble_eq_true rfl⟩ dX4_move_36 rfl (fun z4 hz4 => ?_)
        refine ev_aload_n hX dX4_move_39 rfl ?_
        refine ev_getr (k := 0) hX (T := TX4) in_X4_move_X4 rfl rfl rfl (show Cond.fieldLink RX4 12 "FiveShogi" "position" "LFiveShogi$Position;" ∈ _ by decide +kernel) rfl dX4_move_40 ?_
        refine ev_iload_n hX dX4_move_43 rfl ?_
        refine ev_iload_n hX dX4_move_44 rfl ?_
        refine ev_iload_n hX dX4_move_45 rfl ?_
        refine ev_callSi hX (As := [.inl a1, .inl a2, .inl a3]) (rm := rm_X4_moveNumber) (c_X4_moveNumber l D cI cC td a1 a2 a3 z4) (cwS 3 hX.ts gX4_move_X4_moveNumber rfl rfl rfl (by decide +kernel) ⟨Nat.le_of_ble_eq_true rfl, Nat.le_of_ble_eq_true rfl⟩) rfl rfl rfl ⟨Nat.le_of_ble_eq_true rfl, Nat.le_of_ble_eq_true rfl⟩ dX4_move_46 rfl (fun z5 hz5 => ?_)
        refine ev_callVi hX (k0 := 1) (As := [.inl z5.1]) (rm := rm_X2_play) (c_X2_play l D cI cC td z5.1 z5.2) (cwV 1 hX.ts gX4_move_X2_play rfl rfl rfl (by decide +kernel) ⟨Nat.le_of_ble_eq_true rfl, Nat.le_of_ble_eq_true rfl⟩) rfl rfl rfl rfl rfl rfl ⟨Nat.le_of_ble_eq_true rfl, Nat.le_of_ble_eq_true rfl⟩ dX4_move_49 rfl (fun z6 hz6 => ?_)
        exact ev_ireti hX hr dX4_move_52
      · refine ev_sipush hX dX4_move_31 (v := (-1004)) (by decide +kernel) ?_
        exact ev_ireti hX hr dX4_move_34
    · refine ev_sipush hX dX4_move_14 (v := (-1001)) (by decide +kernel) ?_
      exact ev_ireti hX hr dX4_move_17
def rm_X5_in : Room := { frames := 0, cells := 0, slots := 0, locals := 0 }
set_option maxHeartbeats 4000000 in
set_option maxRecDepth 100000 in
theorem c_X5_in (l : Launch) (D : va_G) (cI cC : ClassId) (td : Nat → Option Nat) (a0 : Int32) (a1 : Int32) (a2 : Int32) (w : mvW) : ∀ z, f_X5_in a0 a1 a2 w = some z → mv_Ci l D vwCl cI cC tbX td yX5_in wsX5_in rm_X5_in shM w [.inl a0, .inl a1, .inl a2] z := by
  refine mv_starti (own := RX5) rfl (by decide) rfl rfl (L0 := [some (.inl a0), some (.inl a1), some (.inl a2)]) rfl (fun p e s m args below meth c A ad0 hX hr => ?_)
  rw [f_X5_in]
  refine ev_iload_n hX dX5_in_0 rfl ?_
  refine ev_iload_n hX dX5_in_1 rfl ?_
  refine ev_icmp_lt (tgt := 14) hX dX5_in_2 (by decide) ?_ ?_
  · refine ev_iconst hX dX5_in_14 (v := 0) (by decide +kernel) ?_
    exact ev_iretz0 hX hr dX5_in_15
  · refine ev_iload_n hX dX5_in_5 rfl ?_
    refine ev_iload_n hX dX5_in_6 rfl ?_
    refine ev_icmp_gt (tgt := 14) hX dX5_in_7 (by decide) ?_ ?_
    · refine ev_iconst hX dX5_in_14 (v := 0) (by decide +kernel) ?_
      exact ev_iretz0 hX hr dX5_in_15
    · refine ev_iconst hX dX5_in_10 (v := 1) (by decide +kernel) ?_
      refine ev_goto (tgt := 15) hX dX5_in_11 (by decide) ?_
      exact ev_iretz1 hX hr dX5_in_15
def rm_X5_isSquare : Room := { frames := 1, cells := 0, slots := 0, locals := 22 }
set_option maxHeartbeats 4000000 in
set_option maxRecDepth 100000 in
theorem c_X5_isSquare (l : Launch) (D : va_G) (cI cC : ClassId) (td : Nat → Option Nat) (a0 : Int32) (w : mvW) : ∀ z, f_X5_isSquare a0 w = some z → mv_Ci l D vwCl cI cC tbX td yX5_isSquare wsX5_isSquare rm_X5_isSquare shM w [.inl a0] z := by
  refine mv_starti (own := RX5) rfl (by decide) rfl rfl (L0 := [some (.inl a0)]) rfl (fun p e s m args below meth c A ad0 hX hr => ?_)
  rw [f_X5_isSquare]
  refine ev_iload_n hX dX5_isSquare_0 rfl ?_
  refine ev_iconst hX dX5_isSquare_1 (v := 0) (by decide +kernel) ?_
  refine ev_bipush hX dX5_isSquare_2 (v := 24) (by decide +kernel) ?_
  refine ev_callSi hX (As := [.inl a0, .inl 0, .inl 24]) (rm := rm_X5_in) (c_X5_in l D cI cC td a0 0 24 w) (cwS 3 hX.ts gX5_isSquare_X5_in rfl rfl rfl (by decide +kernel) ⟨Nat.le_of_ble_eq_true rfl, Nat.le_of_ble_eq_true rfl⟩) rfl rfl rfl ⟨Nat.le_of_ble_eq_true rfl, Nat.le_of_ble_eq_true rfl⟩ dX5_isSquare_4 rfl (fun z1 hz1 => ?_)
  exact ev_iretz hX hr dX5_isSquare_7
def rm_X5_kindOf : Room := { frames := 0, cells := 0, slots := 0, locals := 0 }
set_option maxHeartbeats 4000000 in
set_option maxRecDepth 100000 in
theorem c_X5_kindOf (l : Launch) (D : va_G) (cI cC : ClassId) (td : Nat → Option Nat) (a0 : Int32) (w : mvW) : ∀ z, f_X5_kindOf a0 w = some z → mv_Ci l D vwCl cI cC tbX td yX5_kindOf wsX5_kindOf rm_X5_kindOf shM w [.inl a0] z := by
  refine mv_starti (own := RX5) rfl (by decide) rfl rfl (L0 := [some (.inl a0)]) rfl (fun p e s m args below meth c A ad0 hX hr => ?_)
  rw [f_X5_kindOf]
  refine ev_iload_n hX dX5_kindOf_0 rfl ?_
  refine ev_sipush hX dX5_kindOf_1 (v := 1250) (by decide +kernel) ?_
  refine ev_isub hX dX5_kindOf_4 ?_
  refine ev_bipush hX dX5_kindOf_5 (v := 25) (by decide +kernel) ?_
  refine ev_idiv hX dX5_kindOf_7 (by decide) ?_
  refine ev_iconst hX dX5_kindOf_8 (v := 1) (by decide +kernel) ?_
  refine ev_iadd hX dX5_kindOf_9 ?_
  exact ev_ireti hX hr dX5_kindOf_10
def rm_X5_lastRow : Room := { frames := 0, cells := 0, slots := 0, locals := 0 }
set_option maxHeartbeats 4000000 in
set_option maxRecDepth 100000 in
theorem c_X5_lastRow (l : Launch) (D : va_G) (cI cC : ClassId) (td : Nat → Option Nat) (a0 : Int32) (w : mvW) : ∀ z, f_X5_lastRow a0 w = some z → mv_Ci l D vwCl cI cC tbX td yX5_lastRow wsX5_lastRow rm_X5_lastRow shM w [.inl a0] z := by
  refine mv_starti (own := RX5) rfl (by decide) rfl rfl (L0 := [some (.inl a0)]) rfl (fun p e s m args below meth c A ad0 hX hr => ?_)
  rw [f_X5_lastRow]
  refine ev_iload_n hX dX5_lastRow_0 rfl ?_
  refine ev_if_ne (tgt := 8) hX dX5_lastRow_1 (by decide) ?_ ?_
  · refine ev_iconst hX dX5_lastRow_8 (v := 4) (by decide +kernel) ?_
    exact ev_ireti hX hr dX5_lastRow_9
  · refine ev_iconst hX dX5_lastRow_4 (v := 0) (by decide +kernel) ?_
    refine ev_goto (tgt := 9) hX dX5_lastRow_5 (by decide) ?_
    exact ev_ireti hX hr dX5_lastRow_9
def rm_X5_manAt : Room := { frames := 0, cells := 0, slots := 0, locals := 0 }
set_option maxRecDepth 20000 in
theorem in_X5_manAt_X5 : ∀ w ∈ u_ws RX5 TX5 8, w ∈ wsX5_manAt := by decide +kernel
set_option maxHeartbeats 4000000 in
set_option maxRecDepth 100000 in
theorem c_X5_manAt (l : Launch) (D : va_G) (cI cC : ClassId) (td : Nat → Option Nat) (a1 : Int32) (a2 : Int32) (w : mvW) : ∀ z, f_X5_manAt a1 a2 w = some z → mv_Ci l D vwCl cI cC tbX td yX5_manAt wsX5_manAt rm_X5_manAt shM w [.inr (.inl 0), .inl a1, .inl a2] z := by
  refine mv_starti (own := RX5) rfl (by decide) rfl rfl (L0 := [some (.inr (.inl 0)), some (.inl a1), some (.inl a2)]) rfl (fun p e s m args below meth c A ad0 hX hr => ?_)
  rw [f_X5_manAt]
  refine ev_aload_n hX dX5_manAt_0 rfl ?_
  refine ev_getr (k := 0) hX (T := TX5) in_X5_manAt_X5 rfl rfl rfl (show Cond.fieldLink RX5 7 "FiveShogiModel" "s" "[I" ∈ _ by decide +kernel) rfl dX5_manAt_1 ?_
  refine ev_iload_n hX dX5_manAt_4 rfl ?_
  refine ev_iload_n hX dX5_manAt_5 rfl ?_
  refine ev_iadd hX dX5_manAt_6 ?_
  refine ev_iald hX rfl dX5_manAt_7 (fun j1 => ?_)
  refine ev_iconst hX dX5_manAt_8 (v := 1) (by decide +kernel) ?_
  refine ev_isub hX dX5_manAt_9 ?_
  exact ev_ireti hX hr dX5_manAt_10
def rm_X5_hasPawnIn : Room := { frames := 1, cells := 0, slots := 0, locals := 22 }
set_option maxHeartbeats 4000000 in
set_option maxRecDepth 100000 in
theorem e_X5_hasPawnIn_6 (hX : mv_X p s m args meth c D vwCl cI cC tbX td A cX5_hasPawnIn 6 RX5 wsX5_hasPawnIn) (hr : meth.sig.returnType = (some .boolean)) : ∀ (n : Nat) (x1 : Int32) (x2 : Int32) (x4 : Int32) (x5 : Int32) (w : mvW), EV p l e (headSpec wsX5_hasPawnIn rm_X5_hasPawnIn).room s m args below meth c D vwCl cI cC td A (fun a => a = ad0) (mv_Qi below args s D vwCl cI cC shM ad0 A) 0 0 shM [some (.inr (.inl 0)), some (.inl x1), some (.inl x2), none, some (.inl x4), some (.inl x5)] [] 6 w (f_X5_hasPawnIn_6 n x1 x2 x4 x5 w) := by
  intro n
  induction n with
  | zero => intro x1 x2 x4 x5 w; exact ev_none
  | succ n ih =>
    intro x1 x2 x4 x5 w
    rw [f_X5_hasPawnIn_6]
    refine ev_iload hX dX5_hasPawnIn_6 rfl ?_
    refine ev_bipush hX dX5_hasPawnIn_8 (v := 25) (by decide +kernel) ?_
    refine ev_icmp_ge (tgt := 47) hX dX5_hasPawnIn_10 (by decide) ?_ ?_
    · refine ev_iload hX dX5_hasPawnIn_47 rfl ?_
      exact ev_iretz hX hr dX5_hasPawnIn_49
    · refine ev_iload hX dX5_hasPawnIn_13 rfl ?_
      refine ev_if_ne (tgt := 34) hX dX5_hasPawnIn_15 (by decide) ?_ ?_
      · refine ev_iconst hX dX5_hasPawnIn_34 (v := 1) (by decide +kernel) ?_
        refine ev_goto (tgt := 39) hX dX5_hasPawnIn_35 (by decide) ?_
        refine ev_istore hX dX5_hasPawnIn_39 rfl (L' := [some (.inr (.inl 0)), some (.inl x1), some (.inl x2), none, some (.inl 1), some (.inl x5)]) rfl ?_
        refine ev_iinc hX dX5_hasPawnIn_41 rfl (v := 5) (by decide +kernel) (L' := [some (.inr (.inl 0)), some (.inl x1), some (.inl x2), none, some (.inl 1), some (.inl (x5 + 5))]) rfl ?_
        refine ev_goto (tgt := 6) hX dX5_hasPawnIn_44 (by decide) ?_
        refine ev_mask [true, true, true, false, true, true] (L' := [some (.inr (.inl 0)), some (.inl x1), some (.inl x2), none, some (.inl 1), some (.inl (x5 + 5))]) rfl rfl ?_
        exact ih x1 x2 1 (x5 + 5) w
      · refine ev_aload_n hX dX5_hasPawnIn_18 rfl ?_
        refine ev_iload_n hX dX5_hasPawnIn_19 rfl ?_
        refine ev_iload hX dX5_hasPawnIn_20 rfl ?_
        refine ev_callVi hX (k0 := 0) (As := [.inl x1, .inl x5]) (rm := rm_X5_manAt) (c_X5_manAt l D cI cC td x1 x5 w) (cwV 2 hX.ts gX5_hasPawnIn_X5_manAt rfl rfl rfl (by decide +kernel) ⟨Nat.le_of_ble_eq_true rfl, Nat.le_of_ble_eq_true rfl⟩) rfl rfl rfl rfl rfl rfl ⟨Nat.le_of_ble_eq_true rfl, Nat.le_of_ble_eq_true rfl⟩ dX5_hasPawnIn_22 rfl (fun z1 hz1 => ?_)
        refine ev_bipush hX dX5_hasPawnIn_25 (v := 10) (by decide +kernel) ?_
        refine ev_iload_n hX dX5_hasPawnIn_27 rfl ?_
        refine ev_imul hX dX5_hasPawnIn_28 ?_
        refine ev_iconst hX dX5_hasPawnIn_29 (v := 5) (by decide +kernel) ?_
        refine ev_iadd hX dX5_hasPawnIn_30 ?_
        refine ev_icmp_ne (tgt := 38) hX dX5_hasPawnIn_31 (by decide) ?_ ?_
        · refine ev_iconst hX dX5_hasPawnIn_38 (v := 0) (by decide +kernel) ?_
          refine ev_istore hX dX5_hasPawnIn_39 rfl (L' := [some (.inr (.inl 0)), some (.inl x1), some (.inl x2), none, some (.inl 0), some (.inl x5)]) rfl ?_
          refine ev_iinc hX dX5_hasPawnIn_41 rfl (v := 5) (by decide +kernel) (L' := [some (.inr (.inl 0)), some (.inl x1), some (.inl x2), none, some (.inl 0), some (.inl (x5 + 5))]) rfl ?_
          refine ev_goto (tgt := 6) hX dX5_hasPawnIn_44 (by decide) ?_
          refine ev_mask [true, true, true, false, true, true] (L' := [some (.inr (.inl 0)), some (.inl x1), some (.inl x2), none, some (.inl 0), some (.inl (x5 + 5))]) rfl rfl ?_
          exact ih x1 x2 0 (x5 + 5) z1.2
        · refine ev_iconst hX dX5_hasPawnIn_34 (v := 1) (by decide +kernel) ?_
          refine ev_goto (tgt := 39) hX dX5_hasPawnIn_35 (by decide) ?_
          refine ev_istore hX dX5_hasPawnIn_39 rfl (L' := [some (.inr (.inl 0)), some (.inl x1), some (.inl x2), none, some (.inl 1), some (.inl x5)]) rfl ?_
          refine ev_iinc hX dX5_hasPawnIn_41 rfl (v := 5) (by decide +kernel) (L' := [some (.inr (.inl 0)), some (.inl x1), some (.inl x2), none, some (.inl 1), some (.inl (x5 + 5))]) rfl ?_
          refine ev_goto (tgt := 6) hX dX5_hasPawnIn_44 (by decide) ?_
          refine ev_mask [true, true, true, false, true, true] (L' := [some (.inr (.inl 0)), some (.inl x1), some (.inl x2), none, some (.inl 1), some (.inl (x5 + 5))]) rfl rfl ?_
          exact ih x1 x2 1 (x5 + 5) z1.2
set_option maxHeartbeats 4000000 in
set_option maxRecDepth 100000 in
theorem c_X5_hasPawnIn (l : Launch) (D : va_G) (cI cC : ClassId) (td : Nat → Option Nat) (a1 : Int32) (a2 : Int32) (a3 : Int32) (w : mvW) : ∀ z, f_X5_hasPawnIn a1 a2 a3 w = some z → mv_Ci l D vwCl cI cC tbX td yX5_hasPawnIn wsX5_hasPawnIn rm_X5_hasPawnIn shM w [.inr (.inl 0), .inl a1, .inl a2, .inl a3] z := by
  refine mv_starti (own := RX5) rfl (by decide) rfl rfl (L0 := [some (.inr (.inl 0)), some (.inl a1), some (.inl a2), some (.inl a3), none, none]) rfl (fun p e s m args below meth c A ad0 hX hr => ?_)
  rw [f_X5_hasPawnIn]
  refine ev_iconst hX dX5_hasPawnIn_0 (v := 0) (by decide +kernel) ?_
  refine ev_istore hX dX5_hasPawnIn_1 rfl (L' := [some (.inr (.inl 0)), some (.inl a1), some (.inl a2), some (.inl a3), some (.inl 0), none]) rfl ?_
  refine ev_iload_n hX dX5_hasPawnIn_3 rfl ?_
  refine ev_istore hX dX5_hasPawnIn_4 rfl (L' := [some (.inr (.inl 0)), some (.inl a1), some (.inl a2), some (.inl a3), some (.inl 0), some (.inl a3)]) rfl ?_
  refine ev_mask [true, true, true, false, true, true] (L' := [some (.inr (.inl 0)), some (.inl a1), some (.inl a2), none, some (.inl 0), some (.inl a3)]) rfl rfl ?_
  exact e_X5_hasPawnIn_6 hX hr 4096 a1 a2 0 a3 w
def rm_X5_whyNotDrop : Room := { frames := 2, cells := 0, slots := 0, locals := 47 }
set_option maxRecDepth 20000 in
theorem in_X5_whyNotDrop_X5 : ∀ w ∈ u_ws RX5 TX5 8, w ∈ wsX5_whyNotDrop := by decide +kernel
set_option maxHeartbeats 4000000 in
set_option maxRecDepth 100000 in
theorem e_X5_whyNotDrop_78 (hX : mv_X p s m args meth c D vwCl cI cC tbX td A cX5_whyNotDrop 6 RX5 wsX5_whyNotDrop) (hr : meth.sig.returnType = (some .int)) (x1 : Int32) (x3 : Int32) (x4 : Int32) (x5 : Int32) (w : mvW) : EV p l e (headSpec wsX5_whyNotDrop rm_X5_whyNotDrop).room s m args below meth c D vwCl cI cC td A (fun a => a = ad0) (mv_Qi below args s D vwCl cI cC shM ad0 A) 0 0 shM [some (.inr (.inl 0)), some (.inl x1), none, some (.inl x3), some (.inl x4), some (.inl x5)] [] 78 w (f_X5_whyNotDrop_78 x1 x3 x4 x5 w) := by
  rw [f_X5_whyNotDrop_78]
  refine ev_iload_n hX dX5_whyNotDrop_78 rfl ?_
  refine ev_iconst hX dX5_whyNotDrop_79 (v := 5) (by decide +kernel) ?_
  refine ev_icmp_ne (tgt := 101) hX dX5_whyNotDrop_80 (by decide) ?_ ?_
  · refine ev_iconst hX dX5_whyNotDrop_101 (v := 0) (by decide +kernel) ?_
    exact ev_ireti hX hr dX5_whyNotDrop_102
  · refine ev_aload_n hX dX5_whyNotDrop_83 rfl ?_
    refine ev_iload_n hX dX5_whyNotDrop_84 rfl ?_
    refine ev_iload hX dX5_whyNotDrop_85 rfl ?_
    refine ev_iload hX dX5_whyNotDrop_87 rfl ?_
    refine ev_iconst hX dX5_whyNotDrop_89 (v := 5) (by decide +kernel) ?_
    refine ev_irem hX dX5_whyNotDrop_90 (by decide) ?_
    refine ev_callVi hX (k0 := 0) (As := [.inl x1, .inl x5, .inl (x4 - x4 / 5 * 5)]) (rm := rm_X5_hasPawnIn) (c_X5_hasPawnIn l D cI cC td x1 x5 (x4 - x4 / 5 * 5) w) (cwV 3 hX.ts gX5_whyNotDrop_X5_hasPawnIn rfl rfl rfl (by decide +kernel) ⟨Nat.le_of_ble_eq_true rfl, Nat.le_of_ble_eq_true rfl⟩) rfl rfl rfl rfl rfl rfl ⟨Nat.le_of_ble_eq_true rfl, Nat.le_of_ble_eq_true rfl⟩ dX5_whyNotDrop_91 rfl (fun z6 hz6 => ?_)
    refine ev_if_eq (tgt := 101) hX dX5_whyNotDrop_94 (by decide) ?_ ?_
    · refine ev_iconst hX dX5_whyNotDrop_101 (v := 0) (by decide +kernel) ?_
      exact ev_ireti hX hr dX5_whyNotDrop_102
    · refine ev_iconst hX dX5_whyNotDrop_97 (v := 4) (by decide +kernel) ?_
      refine ev_goto (tgt := 102) hX dX5_whyNotDrop_98 (by decide) ?_
      exact ev_ireti hX hr dX5_whyNotDrop_102
set_option maxHeartbeats 4000000 in
set_option maxRecDepth 100000 in
theorem c_X5_whyNotDrop (l : Launch) (D : va_G) (cI cC : ClassId) (td : Nat → Option Nat) (a1 : Int32) (a2 : Int32) (w : mvW) : ∀ z, f_X5_whyNotDrop a1 a2 w = some z → mv_Ci l D vwCl cI cC tbX td yX5_whyNotDrop wsX5_whyNotDrop rm_X5_whyNotDrop shM w [.inr (.inl 0), .inl a1, .inl a2] z := by
  refine mv_starti (own := RX5) rfl (by decide) rfl rfl (L0 := [some (.inr (.inl 0)), some (.inl a1), some (.inl a2), none, none, none]) rfl (fun p e s m args below meth c A ad0 hX hr => ?_)
  rw [f_X5_whyNotDrop]
  refine ev_iload_n hX dX5_whyNotDrop_0 rfl ?_
  refine ev_callSi hX (As := [.inl a2]) (rm := rm_X5_kindOf) (c_X5_kindOf l D cI cC td a2 w) (cwS 1 hX.ts gX5_whyNotDrop_X5_kindOf rfl rfl rfl (by decide +kernel) ⟨Nat.le_of_ble_eq_true rfl, Nat.le_of_ble_eq_true rfl⟩) rfl rfl rfl ⟨Nat.le_of_ble_eq_true rfl, Nat.le_of_ble_eq_true rfl⟩ dX5_whyNotDrop_1 rfl (fun z1 hz1 => ?_)
  refine ev_istore_n hX dX5_whyNotDrop_4 rfl (L' := [some (.inr (.inl 0)), some (.inl a1), some (.inl a2), some (.inl z1.1), none, none]) rfl ?_
  refine ev_iload_n hX dX5_whyNotDrop_5 rfl ?_
  refine ev_bipush hX dX5_whyNotDrop_6 (v := 25) (by decide +kernel) ?_
  refine ev_irem hX dX5_whyNotDrop_8 (by decide) ?_
  refine ev_istore hX dX5_whyNotDrop_9 rfl (L' := [some (.inr (.inl 0)), some (.inl a1), some (.inl a2), some (.inl z1.1), some (.inl (a2 - a2 / 25 * 25)), none]) rfl ?_
  refine ev_aload_n hX dX5_whyNotDrop_11 rfl ?_
  refine ev_getr (k := 0) hX (T := TX5) in_X5_whyNotDrop_X5 rfl rfl rfl (show Cond.fieldLink RX5 7 "FiveShogiModel" "s" "[I" ∈ _ by decide +kernel) rfl dX5_whyNotDrop_12 ?_
  refine ev_iload_n hX dX5_whyNotDrop_15 rfl ?_
  refine ev_bipush hX dX5_whyNotDrop_16 (v := 35) (by decide +kernel) ?_
  refine ev_iadd hX dX5_whyNotDrop_18 ?_
  refine ev_iald hX rfl dX5_whyNotDrop_19 (fun j2 => ?_)
  refine ev_istore hX dX5_whyNotDrop_20 rfl (L' := [some (.inr (.inl 0)), some (.inl a1), some (.inl a2), some (.inl z1.1), some (.inl (a2 - a2 / 25 * 25)), some (.inl (z1.2 1 j2))]) rfl ?_
  refine ev_aload_n hX dX5_whyNotDrop_22 rfl ?_
  refine ev_getr (k := 0) hX (T := TX5) in_X5_whyNotDrop_X5 rfl rfl rfl (show Cond.fieldLink RX5 7 "FiveShogiModel" "s" "[I" ∈ _ by decide +kernel) rfl dX5_whyNotDrop_23 ?_
  refine ev_iload_n hX dX5_whyNotDrop_26 rfl ?_
  refine ev_bipush hX dX5_whyNotDrop_27 (v := 25) (by decide +kernel) ?_
  refine ev_iadd hX dX5_whyNotDrop_29 ?_
  refine ev_iconst hX dX5_whyNotDrop_30 (v := 5) (by decide +kernel) ?_
  refine ev_iload hX dX5_whyNotDrop_31 rfl ?_
  refine ev_imul hX dX5_whyNotDrop_33 ?_
  refine ev_iadd hX dX5_whyNotDrop_34 ?_
  refine ev_iload_n hX dX5_whyNotDrop_35 rfl ?_
  refine ev_iadd hX dX5_whyNotDrop_36 ?_
  refine ev_iconst hX dX5_whyNotDrop_37 (v := 1) (by decide +kernel) ?_
  refine ev_isub hX dX5_whyNotDrop_38 ?_
  refine ev_iald hX rfl dX5_whyNotDrop_39 (fun j3 => ?_)
  refine ev_if_ne (tgt := 45) hX dX5_whyNotDrop_40 (by decide) ?_ ?_
  · refine ev_aload_n hX dX5_whyNotDrop_45 rfl ?_
    refine ev_getr (k := 0) hX (T := TX5) in_X5_whyNotDrop_X5 rfl rfl rfl (show Cond.fieldLink RX5 7 "FiveShogiModel" "s" "[I" ∈ _ by decide +kernel) rfl dX5_whyNotDrop_46 ?_
    refine ev_iload_n hX dX5_whyNotDrop_49 rfl ?_
    refine ev_iload hX dX5_whyNotDrop_50 rfl ?_
    refine ev_iadd hX dX5_whyNotDrop_52 ?_
    refine ev_iald hX rfl dX5_whyNotDrop_53 (fun j4 => ?_)
    refine ev_if_eq (tgt := 59) hX dX5_whyNotDrop_54 (by decide) ?_ ?_
    · refine ev_iload_n hX dX5_whyNotDrop_59 rfl ?_
      refine ev_iconst hX dX5_whyNotDrop_60 (v := 5) (by decide +kernel) ?_
      refine ev_icmp_ne (tgt := 78) hX dX5_whyNotDrop_61 (by decide) ?_ ?_
      · refine ev_mask [true, true, false, true, true, true] (L' := [some (.inr (.inl 0)), some (.inl a1), none, some (.inl z1.1), some (.inl (a2 - a2 / 25 * 25)), some (.inl (z1.2 1 j2))]) rfl rfl ?_
        exact e_X5_whyNotDrop_78 hX hr a1 z1.1 (a2 - a2 / 25 * 25) (z1.2 1 j2) z1.2
      · refine ev_iload hX dX5_whyNotDrop_64 rfl ?_
        refine ev_iconst hX dX5_whyNotDrop_66 (v := 5) (by decide +kernel) ?_
        refine ev_idiv hX dX5_whyNotDrop_67 (by decide) ?_
        refine ev_iload hX dX5_whyNotDrop_68 rfl ?_
        refine ev_callSi hX (As := [.inl (z1.2 1 j2)]) (rm := rm_X5_lastRow) (c_X5_lastRow l D cI cC td (z1.2 1 j2) z1.2) (cwS 1 hX.ts gX5_whyNotDrop_X5_lastRow rfl rfl rfl (by decide +kernel) ⟨Nat.le_of_ble_eq_true rfl, Nat.le_of_ble_eq_true rfl⟩) rfl rfl rfl ⟨Nat.le_of_ble_eq_true rfl, Nat.le_of_ble_eq_true rfl⟩ dX5_whyNotDrop_70 rfl (fun z5 hz5 => ?_)
        refine ev_icmp_ne (tgt := 78) hX dX5_whyNotDrop_73 (by decide) ?_ ?_
        · refine ev_mask [true, true, false, true, true, true] (L' := [some (.inr (.inl 0)), some (.inl a1), none, some (.inl z1.1), some (.inl (a2 - a2 / 25 * 25)), some (.inl (z1.2 1 j2))]) rfl rfl ?_
          exact e_X5_whyNotDrop_78 hX hr a1 z1.1 (a2 - a2 / 25 * 25) (z1.2 1 j2) z5.2
        · refine ev_iconst hX dX5_whyNotDrop_76 (v := 3) (by decide +kernel) ?_
          exact ev_ireti hX hr dX5_whyNotDrop_77
    · refine ev_iconst hX dX5_whyNotDrop_57 (v := 2) (by decide +kernel) ?_
      exact ev_ireti hX hr dX5_whyNotDrop_58
  · refine ev_iconst hX dX5_whyNotDrop_43 (v := 1) (by decide +kernel) ?_
    exact ev_ireti hX hr dX5_whyNotDrop_44
def rm_X5_from : Room := { frames := 0, cells := 0, slots := 0, locals := 0 }
set_option maxHeartbeats 4000000 in
set_option maxRecDepth 100000 in
theorem c_X5_from (l : Launch) (D : va_G) (cI cC : ClassId) (td : Nat → Option Nat) (a0 : Int32) (w : mvW) : ∀ z, f_X5_from a0 w = some z → mv_Ci l D vwCl cI cC tbX td yX5_from wsX5_from rm_X5_from shM w [.inl a0] z := by
  refine mv_starti (own := RX5) rfl (by decide) rfl rfl (L0 := [some (.inl a0)]) rfl (fun p e s m args below meth c A ad0 hX hr => ?_)
  rw [f_X5_from]
  refine ev_iload_n hX dX5_from_0 rfl ?_
  refine ev_sipush hX dX5_from_1 (v := 625) (by decide +kernel) ?_
  refine ev_irem hX dX5_from_4 (by decide) ?_
  refine ev_bipush hX dX5_from_5 (v := 25) (by decide +kernel) ?_
  refine ev_idiv hX dX5_from_7 (by decide) ?_
  exact ev_ireti hX hr dX5_from_8
def rm_X5_sideOn : Room := { frames := 1, cells := 0, slots := 0, locals := 22 }
set_option maxRecDepth 20000 in
theorem in_X5_sideOn_X5 : ∀ w ∈ u_ws RX5 TX5 8, w ∈ wsX5_sideOn := by decide +kernel
set_option maxHeartbeats 4000000 in
set_option maxRecDepth 100000 in
theorem c_X5_sideOn (l : Launch) (D : va_G) (cI cC : ClassId) (td : Nat → Option Nat) (a1 : Int32) (a2 : Int32) (w : mvW) : ∀ z, f_X5_sideOn a1 a2 w = some z → mv_Ci l D vwCl cI cC tbX td yX5_sideOn wsX5_sideOn rm_X5_sideOn shM w [.inr (.inl 0), .inl a1, .inl a2] z := by
  refine mv_starti (own := RX5) rfl (by decide) rfl rfl (L0 := [some (.inr (.inl 0)), some (.inl a1), some (.inl a2)]) rfl (fun p e s m args below meth c A ad0 hX hr => ?_)
  rw [f_X5_sideOn]
  refine ev_aload_n hX dX5_sideOn_0 rfl ?_
  refine ev_getr (k := 0) hX (T := TX5) in_X5_sideOn_X5 rfl rfl rfl (show Cond.fieldLink RX5 7 "FiveShogiModel" "s" "[I" ∈ _ by decide +kernel) rfl dX5_sideOn_1 ?_
  refine ev_iload_n hX dX5_sideOn_4 rfl ?_
  refine ev_iload_n hX dX5_sideOn_5 rfl ?_
  refine ev_iadd hX dX5_sideOn_6 ?_
  refine ev_iald hX rfl dX5_sideOn_7 (fun j1 => ?_)
  refine ev_if_ne (tgt := 15) hX dX5_sideOn_8 (by decide) ?_ ?_
  · refine ev_aload_n hX dX5_sideOn_15 rfl ?_
    refine ev_iload_n hX dX5_sideOn_16 rfl ?_
    refine ev_iload_n hX dX5_sideOn_17 rfl ?_
    refine ev_callVi hX (k0 := 0) (As := [.inl a1, .inl a2]) (rm := rm_X5_manAt) (c_X5_manAt l D cI cC td a1 a2 w) (cwV 2 hX.ts gX5_sideOn_X5_manAt rfl rfl rfl (by decide +kernel) ⟨Nat.le_of_ble_eq_true rfl, Nat.le_of_ble_eq_true rfl⟩) rfl rfl rfl rfl rfl rfl ⟨Nat.le_of_ble_eq_true rfl, Nat.le_of_ble_eq_true rfl⟩ dX5_sideOn_18 rfl (fun z2 hz2 => ?_)
    refine ev_bipush hX dX5_sideOn_21 (v := 10) (by decide +kernel) ?_
    refine ev_idiv hX dX5_sideOn_23 (by decide) ?_
    exact ev_ireti hX hr dX5_sideOn_24
  · refine ev_iconst hX dX5_sideOn_11 (v := (-1)) (by decide +kernel) ?_
    refine ev_goto (tgt := 24) hX dX5_sideOn_12 (by decide) ?_
    exact ev_ireti hX hr dX5_sideOn_24
def rm_X5_isLine : Room := { frames := 0, cells := 0, slots := 0, locals := 0 }
set_option maxHeartbeats 4000000 in
set_option maxRecDepth 100000 in
theorem e_X5_isLine_13 (hX : mv_X p s m args meth c D vwCl cI cC tbX td A cX5_isLine 4 RX5 wsX5_isLine) (hr : meth.sig.returnType = (some .boolean)) (x0 : Int32) (s0 : Int32) (w : mvW) : EV p l e (headSpec wsX5_isLine rm_X5_isLine).room s m args below meth c D vwCl cI cC td A (fun a => a = ad0) (mv_Qi below args s D vwCl cI cC shM ad0 A) 0 0 shM [some (.inl x0), none, none, none] [.inl s0] 13 w (f_X5_isLine_13 x0 s0 w) := by
  rw [f_X5_isLine_13]
  refine ev_istore_n hX dX5_isLine_13 rfl (L' := [some (.inl x0), none, none, some (.inl s0)]) rfl ?_
  refine ev_iload_n hX dX5_isLine_14 rfl ?_
  refine ev_if_eq (tgt := 37) hX dX5_isLine_15 (by decide) ?_ ?_
  · refine ev_iload_n hX dX5_isLine_37 rfl ?_
    refine ev_iconst hX dX5_isLine_38 (v := 4) (by decide +kernel) ?_
    refine ev_icmp_eq (tgt := 48) hX dX5_isLine_39 (by decide) ?_ ?_
    · refine ev_iconst hX dX5_isLine_48 (v := 1) (by decide +kernel) ?_
      refine ev_goto (tgt := 53) hX dX5_isLine_49 (by decide) ?_
      exact ev_iretz1 hX hr dX5_isLine_53
    · refine ev_iload_n hX dX5_isLine_42 rfl ?_
      refine ev_bipush hX dX5_isLine_43 (v := 8) (by decide +kernel) ?_
      refine ev_icmp_ne (tgt := 52) hX dX5_isLine_45 (by decide) ?_ ?_
      · refine ev_iconst hX dX5_isLine_52 (v := 0) (by decide +kernel) ?_
        exact ev_iretz0 hX hr dX5_isLine_53
      · refine ev_iconst hX dX5_isLine_48 (v := 1) (by decide +kernel) ?_
        refine ev_goto (tgt := 53) hX dX5_isLine_49 (by decide) ?_
        exact ev_iretz1 hX hr dX5_isLine_53
  · refine ev_iload_n hX dX5_isLine_18 rfl ?_
    refine ev_iconst hX dX5_isLine_19 (v := 3) (by decide +kernel) ?_
    refine ev_icmp_eq (tgt := 29) hX dX5_isLine_20 (by decide) ?_ ?_
    · refine ev_iconst hX dX5_isLine_29 (v := 1) (by decide +kernel) ?_
      refine ev_goto (tgt := 53) hX dX5_isLine_30 (by decide) ?_
      exact ev_iretz1 hX hr dX5_isLine_53
    · refine ev_iload_n hX dX5_isLine_23 rfl ?_
      refine ev_bipush hX dX5_isLine_24 (v := 7) (by decide +kernel) ?_
      refine ev_icmp_ne (tgt := 33) hX dX5_isLine_26 (by decide) ?_ ?_
      · refine ev_iconst hX dX5_isLine_33 (v := 0) (by decide +kernel) ?_
        refine ev_goto (tgt := 53) hX dX5_isLine_34 (by decide) ?_
        exact ev_iretz0 hX hr dX5_isLine_53
      · refine ev_iconst hX dX5_isLine_29 (v := 1) (by decide +kernel) ?_
        refine ev_goto (tgt := 53) hX dX5_isLine_30 (by decide) ?_
        exact ev_iretz1 hX hr dX5_isLine_53
set_option maxHeartbeats 4000000 in
set_option maxRecDepth 100000 in
theorem c_X5_isLine (l : Launch) (D : va_G) (cI cC : ClassId) (td : Nat → Option Nat) (a0 : Int32) (a1 : Int32) (a2 : Int32) (w : mvW) : ∀ z, f_X5_isLine a0 a1 a2 w = some z → mv_Ci l D vwCl cI cC tbX td yX5_isLine wsX5_isLine rm_X5_isLine shM w [.inl a0, .inl a1, .inl a2] z := by
  refine mv_starti (own := RX5) rfl (by decide) rfl rfl (L0 := [some (.inl a0), some (.inl a1), some (.inl a2), none]) rfl (fun p e s m args below meth c A ad0 hX hr => ?_)
  rw [f_X5_isLine]
  refine ev_iload_n hX dX5_isLine_0 rfl ?_
  refine ev_if_eq (tgt := 12) hX dX5_isLine_1 (by decide) ?_ ?_
  · refine ev_iconst hX dX5_isLine_12 (v := 0) (by decide +kernel) ?_
    refine ev_mask [true, false, false, false] (L' := [some (.inl a0), none, none, none]) rfl rfl ?_
    exact e_X5_isLine_13 hX hr a0 0 w
  · refine ev_iload_n hX dX5_isLine_4 rfl ?_
    refine ev_if_eq (tgt := 12) hX dX5_isLine_5 (by decide) ?_ ?_
    · refine ev_iconst hX dX5_isLine_12 (v := 0) (by decide +kernel) ?_
      refine ev_mask [true, false, false, false] (L' := [some (.inl a0), none, none, none]) rfl rfl ?_
      exact e_X5_isLine_13 hX hr a0 0 w
    · refine ev_iconst hX dX5_isLine_8 (v := 1) (by decide +kernel) ?_
      refine ev_goto (tgt := 13) hX dX5_isLine_9 (by decide) ?_
      refine ev_mask [true, false, false, false] (L' := [some (.inl a0), none, none, none]) rfl rfl ?_
      exact e_X5_isLine_13 hX hr a0 1 w
def rm_X5_isStep : Room := { frames := 0, cells := 0, slots := 0, locals := 0 }
set_option maxHeartbeats 4000000 in
set_option maxRecDepth 100000 in
theorem e_X5_isStep_117 (hX : mv_X p s m args meth c D vwCl cI cC tbX td A cX5_isStep 3 RX5 wsX5_isStep) (hr : meth.sig.returnType = (some .boolean)) (x0 : Int32) (x1 : Int32) (x2 : Int32) (w : mvW) : EV p l e (headSpec wsX5_isStep rm_X5_isStep).room s m args below meth c D vwCl cI cC td A (fun a => a = ad0) (mv_Qi below args s D vwCl cI cC shM ad0 A) 0 0 shM [some (.inl x0), some (.inl x1), some (.inl x2)] [] 117 w (f_X5_isStep_117 x0 x1 x2 w) := by
  rw [f_X5_isStep_117]
  refine ev_iload_n hX dX5_isStep_117 rfl ?_
  refine ev_iconst hX dX5_isStep_118 (v := 3) (by decide +kernel) ?_
  refine ev_icmp_eq (tgt := 140) hX dX5_isStep_119 (by decide) ?_ ?_
  · refine ev_iconst hX dX5_isStep_140 (v := 0) (by decide +kernel) ?_
    exact ev_iretz0 hX hr dX5_isStep_141
  · refine ev_iload_n hX dX5_isStep_122 rfl ?_
    refine ev_iconst hX dX5_isStep_123 (v := 4) (by decide +kernel) ?_
    refine ev_icmp_eq (tgt := 140) hX dX5_isStep_124 (by decide) ?_ ?_
    · refine ev_iconst hX dX5_isStep_140 (v := 0) (by decide +kernel) ?_
      exact ev_iretz0 hX hr dX5_isStep_141
    · refine ev_iload_n hX dX5_isStep_127 rfl ?_
      refine ev_iconst hX dX5_isStep_128 (v := (-1)) (by decide +kernel) ?_
      refine ev_icmp_ne (tgt := 136) hX dX5_isStep_129 (by decide) ?_ ?_
      · refine ev_iconst hX dX5_isStep_136 (v := 1) (by decide +kernel) ?_
        refine ev_goto (tgt := 141) hX dX5_isStep_137 (by decide) ?_
        exact ev_iretz1 hX hr dX5_isStep_141
      · refine ev_iload_n hX dX5_isStep_132 rfl ?_
        refine ev_if_ne (tgt := 140) hX dX5_isStep_133 (by decide) ?_ ?_
        · refine ev_iconst hX dX5_isStep_140 (v := 0) (by decide +kernel) ?_
          exact ev_iretz0 hX hr dX5_isStep_141
        · refine ev_iconst hX dX5_isStep_136 (v := 1) (by decide +kernel) ?_
          refine ev_goto (tgt := 141) hX dX5_isStep_137 (by decide) ?_
          exact ev_iretz1 hX hr dX5_isStep_141
set_option maxHeartbeats 4000000 in
set_option maxRecDepth 100000 in
theorem c_X5_isStep (l : Launch) (D : va_G) (cI cC : ClassId) (td : Nat → Option Nat) (a0 : Int32) (a1 : Int32) (a2 : Int32) (w : mvW) : ∀ z, f_X5_isStep a0 a1 a2 w = some z → mv_Ci l D vwCl cI cC tbX td yX5_isStep wsX5_isStep rm_X5_isStep shM w [.inl a0, .inl a1, .inl a2] z := by
  refine mv_starti (own := RX5) rfl (by decide) rfl rfl (L0 := [some (.inl a0), some (.inl a1), some (.inl a2)]) rfl (fun p e s m args below meth c A ad0 hX hr => ?_)
  rw [f_X5_isStep]
  refine ev_iload_n hX dX5_isStep_0 rfl ?_
  refine ev_case 0 (fun c_1_0 => ?_) (fun c_1_0 => ?_)
  · refine ev_tsIn (tgt := 52) hX dX5_isStep_1 c_1_0 rfl rfl rfl (by decide) ?_
    refine ev_iconst hX dX5_isStep_52 (v := 1) (by decide +kernel) ?_
    exact ev_iretz1 hX hr dX5_isStep_53
  · refine ev_case 1 (fun c_1_1 => ?_) (fun c_1_1 => ?_)
    · refine ev_tsIn (tgt := 117) hX dX5_isStep_1 c_1_1 rfl rfl rfl (by decide) ?_
      refine ev_mask [true, true, true] (L' := [some (.inl a0), some (.inl a1), some (.inl a2)]) rfl rfl ?_
      exact e_X5_isStep_117 hX hr a0 a1 a2 w
    · refine ev_case 2 (fun c_1_2 => ?_) (fun c_1_2 => ?_)
      · refine ev_tsIn (tgt := 54) hX dX5_isStep_1 c_1_2 rfl rfl rfl (by decide) ?_
        refine ev_iload_n hX dX5_isStep_54 rfl ?_
        refine ev_iconst hX dX5_isStep_55 (v := 1) (by decide +kernel) ?_
        refine ev_icmp_eq (tgt := 68) hX dX5_isStep_56 (by decide) ?_ ?_
        · refine ev_iconst hX dX5_isStep_68 (v := 1) (by decide +kernel) ?_
          refine ev_goto (tgt := 73) hX dX5_isStep_69 (by decide) ?_
          exact ev_iretz1 hX hr dX5_isStep_73
        · refine ev_iload_n hX dX5_isStep_59 rfl ?_
          refine ev_iconst hX dX5_isStep_60 (v := (-1)) (by decide +kernel) ?_
          refine ev_icmp_ne (tgt := 72) hX dX5_isStep_61 (by decide) ?_ ?_
          · refine ev_iconst hX dX5_isStep_72 (v := 0) (by decide +kernel) ?_
            exact ev_iretz0 hX hr dX5_isStep_73
          · refine ev_iload_n hX dX5_isStep_64 rfl ?_
            refine ev_if_eq (tgt := 72) hX dX5_isStep_65 (by decide) ?_ ?_
            · refine ev_iconst hX dX5_isStep_72 (v := 0) (by decide +kernel) ?_
              exact ev_iretz0 hX hr dX5_isStep_73
            · refine ev_iconst hX dX5_isStep_68 (v := 1) (by decide +kernel) ?_
              refine ev_goto (tgt := 73) hX dX5_isStep_69 (by decide) ?_
              exact ev_iretz1 hX hr dX5_isStep_73
      · refine ev_case 3 (fun c_1_3 => ?_) (fun c_1_3 => ?_)
        · refine ev_tsIn (tgt := 117) hX dX5_isStep_1 c_1_3 rfl rfl rfl (by decide) ?_
          refine ev_mask [true, true, true] (L' := [some (.inl a0), some (.inl a1), some (.inl a2)]) rfl rfl ?_
          exact e_X5_isStep_117 hX hr a0 a1 a2 w
        · refine ev_case 4 (fun c_1_4 => ?_) (fun c_1_4 => ?_)
          · refine ev_tsIn (tgt := 117) hX dX5_isStep_1 c_1_4 rfl rfl rfl (by decide) ?_
            refine ev_mask [true, true, true] (L' := [some (.inl a0), some (.inl a1), some (.inl a2)]) rfl rfl ?_
            exact e_X5_isStep_117 hX hr a0 a1 a2 w
          · refine ev_case 5 (fun c_1_5 => ?_) (fun c_1_5 => ?_)
            · refine ev_tsIn (tgt := 74) hX dX5_isStep_1 c_1_5 rfl rfl rfl (by decide) ?_
              refine ev_iload_n hX dX5_isStep_74 rfl ?_
              refine ev_iconst hX dX5_isStep_75 (v := 1) (by decide +kernel) ?_
              refine ev_icmp_ne (tgt := 87) hX dX5_isStep_76 (by decide) ?_ ?_
              · refine ev_iconst hX dX5_isStep_87 (v := 0) (by decide +kernel) ?_
                exact ev_iretz0 hX hr dX5_isStep_88
              · refine ev_iload_n hX dX5_isStep_79 rfl ?_
                refine ev_if_ne (tgt := 87) hX dX5_isStep_80 (by decide) ?_ ?_
                · refine ev_iconst hX dX5_isStep_87 (v := 0) (by decide +kernel) ?_
                  exact ev_iretz0 hX hr dX5_isStep_88
                · refine ev_iconst hX dX5_isStep_83 (v := 1) (by decide +kernel) ?_
                  refine ev_goto (tgt := 88) hX dX5_isStep_84 (by decide) ?_
                  exact ev_iretz1 hX hr dX5_isStep_88
            · refine ev_case 6 (fun c_1_6 => ?_) (fun c_1_6 => ?_)
              · refine ev_tsIn (tgt := 117) hX dX5_isStep_1 c_1_6 rfl rfl rfl (by decide) ?_
                refine ev_mask [true, true, true] (L' := [some (.inl a0), some (.inl a1), some (.inl a2)]) rfl rfl ?_
                exact e_X5_isStep_117 hX hr a0 a1 a2 w
              · refine ev_case 7 (fun c_1_7 => ?_) (fun c_1_7 => ?_)
                · refine ev_tsIn (tgt := 89) hX dX5_isStep_1 c_1_7 rfl rfl rfl (by decide) ?_
                  refine ev_iload_n hX dX5_isStep_89 rfl ?_
                  refine ev_if_eq (tgt := 97) hX dX5_isStep_90 (by decide) ?_ ?_
                  · refine ev_iconst hX dX5_isStep_97 (v := 1) (by decide +kernel) ?_
                    refine ev_goto (tgt := 102) hX dX5_isStep_98 (by decide) ?_
                    exact ev_iretz1 hX hr dX5_isStep_102
                  · refine ev_iload_n hX dX5_isStep_93 rfl ?_
                    refine ev_if_ne (tgt := 101) hX dX5_isStep_94 (by decide) ?_ ?_
                    · refine ev_iconst hX dX5_isStep_101 (v := 0) (by decide +kernel) ?_
                      exact ev_iretz0 hX hr dX5_isStep_102
                    · refine ev_iconst hX dX5_isStep_97 (v := 1) (by decide +kernel) ?_
                      refine ev_goto (tgt := 102) hX dX5_isStep_98 (by decide) ?_
                      exact ev_iretz1 hX hr dX5_isStep_102
                · refine ev_case 8 (fun c_1_8 => ?_) (fun c_1_8 => ?_)
                  · refine ev_tsIn (tgt := 103) hX dX5_isStep_1 c_1_8 rfl rfl rfl (by decide) ?_
                    refine ev_iload_n hX dX5_isStep_103 rfl ?_
                    refine ev_if_eq (tgt := 115) hX dX5_isStep_104 (by decide) ?_ ?_
                    · refine ev_iconst hX dX5_isStep_115 (v := 0) (by decide +kernel) ?_
                      exact ev_iretz0 hX hr dX5_isStep_116
                    · refine ev_iload_n hX dX5_isStep_107 rfl ?_
                      refine ev_if_eq (tgt := 115) hX dX5_isStep_108 (by decide) ?_ ?_
                      · refine ev_iconst hX dX5_isStep_115 (v := 0) (by decide +kernel) ?_
                        exact ev_iretz0 hX hr dX5_isStep_116
                      · refine ev_iconst hX dX5_isStep_111 (v := 1) (by decide +kernel) ?_
                        refine ev_goto (tgt := 116) hX dX5_isStep_112 (by decide) ?_
                        exact ev_iretz1 hX hr dX5_isStep_116
                  · refine ev_tsOut (tgt := 117) hX dX5_isStep_1 (mv_swout 0 9 (lt_s (lt_s (lt_s (lt_s (lt_s (lt_s (lt_s (lt_s (lt_s lt_0 c_1_0) c_1_1) c_1_2) c_1_3) c_1_4) c_1_5) c_1_6) c_1_7) c_1_8) (by decide) (by decide) (by decide)) (by decide) ?_
                    refine ev_mask [true, true, true] (L' := [some (.inl a0), some (.inl a1), some (.inl a2)]) rfl rfl ?_
                    exact e_X5_isStep_117 hX hr a0 a1 a2 w
def rm_X5_ray : Room := { frames := 1, cells := 0, slots := 0, locals := 23 }
set_option maxRecDepth 20000 in
theorem in_X5_ray_X5 : ∀ w ∈ u_ws RX5 TX5 8, w ∈ wsX5_ray := by decide +kernel
set_option maxHeartbeats 4000000 in
set_option maxRecDepth 100000 in
theorem e_X5_ray_155 (hX : mv_X p s m args meth c D vwCl cI cC tbX td A cX5_ray 13 RX5 wsX5_ray) (hr : meth.sig.returnType = (some .int)) (k90 : Int32 → Int32 → Int32 → Int32 → Int32 → Int32 → Int32 → Int32 → mvW → Option (Int32 × mvW)) (hk90 : ∀ (x1 : Int32) (x3 : Int32) (x4 : Int32) (x8 : Int32) (x9 : Int32) (x10 : Int32) (x11 : Int32) (x12 : Int32) (w : mvW), EV p l e (headSpec wsX5_ray rm_X5_ray).room s m args below meth c D vwCl cI cC td A (fun a => a = ad0) (mv_Qi below args s D vwCl cI cC shM ad0 A) 0 0 shM [some (.inr (.inl 0)), some (.inl x1), none, some (.inl x3), some (.inl x4), none, none, none, some (.inl x8), some (.inl x9), some (.inl x10), some (.inl x11), some (.inl x12)] [] 90 w (k90 x1 x3 x4 x8 x9 x10 x11 x12 w)) (x1 : Int32) (x3 : Int32) (x4 : Int32) (x8 : Int32) (x9 : Int32) (x10 : Int32) (x11 : Int32) (s0 : Int32) (w : mvW) : EV p l e (headSpec wsX5_ray rm_X5_ray).room s m args below meth c D vwCl cI cC td A (fun a => a = ad0) (mv_Qi below args s D vwCl cI cC shM ad0 A) 0 0 shM [some (.inr (.inl 0)), some (.inl x1), none, some (.inl x3), some (.inl x4), none, none, none, some (.inl x8), some (.inl x9), some (.inl x10), some (.inl x11), none] [.inl s0] 155 w (f_X5_ray_155 k90 x1 x3 x4 x8 x9 x10 x11 s0 w) := by
  rw [f_X5_ray_155]
  refine ev_istore hX dX5_ray_155 rfl (L' := [some (.inr (.inl 0)), some (.inl x1), none, some (.inl x3), some (.inl x4), none, none, none, some (.inl x8), some (.inl x9), some (.inl x10), some (.inl x11), some (.inl s0)]) rfl ?_
  refine ev_iload hX dX5_ray_157 rfl ?_
  refine ev_iload_n hX dX5_ray_159 rfl ?_
  refine ev_iadd hX dX5_ray_160 ?_
  refine ev_istore hX dX5_ray_161 rfl (L' := [some (.inr (.inl 0)), some (.inl x1), none, some (.inl x3), some (.inl x4), none, none, none, some (.inl x8), some (.inl x9), some (.inl (x10 + x3)), some (.inl x11), some (.inl s0)]) rfl ?_
  refine ev_iload hX dX5_ray_163 rfl ?_
  refine ev_iload hX dX5_ray_165 rfl ?_
  refine ev_iadd hX dX5_ray_167 ?_
  refine ev_istore hX dX5_ray_168 rfl (L' := [some (.inr (.inl 0)), some (.inl x1), none, some (.inl x3), some (.inl x4), none, none, none, some (.inl x8), some (.inl x9), some (.inl (x10 + x3)), some (.inl (x11 + x4)), some (.inl s0)]) rfl ?_
  refine ev_iinc hX dX5_ray_170 rfl (v := 1) (by decide +kernel) (L' := [some (.inr (.inl 0)), some (.inl x1), none, some (.inl x3), some (.inl x4), none, none, none, some (.inl x8), some (.inl x9), some (.inl (x10 + x3)), some (.inl (x11 + x4)), some (.inl (s0 + 1))]) rfl ?_
  refine ev_goto (tgt := 90) hX dX5_ray_173 (by decide) ?_
  refine ev_mask [true, true, false, true, true, false, false, false, true, true, true, true, true] (L' := [some (.inr (.inl 0)), some (.inl x1), none, some (.inl x3), some (.inl x4), none, none, none, some (.inl x8), some (.inl x9), some (.inl (x10 + x3)), some (.inl (x11 + x4)), some (.inl (s0 + 1))]) rfl rfl ?_
  exact hk90 x1 x3 x4 x8 x9 (x10 + x3) (x11 + x4) (s0 + 1) w
set_option maxHeartbeats 4000000 in
set_option maxRecDepth 100000 in
theorem e_X5_ray_90 (hX : mv_X p s m args meth c D vwCl cI cC tbX td A cX5_ray 13 RX5 wsX5_ray) (hr : meth.sig.returnType = (some .int)) : ∀ (n : Nat) (x1 : Int32) (x3 : Int32) (x4 : Int32) (x8 : Int32) (x9 : Int32) (x10 : Int32) (x11 : Int32) (x12 : Int32) (w : mvW), EV p l e (headSpec wsX5_ray rm_X5_ray).room s m args below meth c D vwCl cI cC td A (fun a => a = ad0) (mv_Qi below args s D vwCl cI cC shM ad0 A) 0 0 shM [some (.inr (.inl 0)), some (.inl x1), none, some (.inl x3), some (.inl x4), none, none, none, some (.inl x8), some (.inl x9), some (.inl x10), some (.inl x11), some (.inl x12)] [] 90 w (f_X5_ray_90 n x1 x3 x4 x8 x9 x10 x11 x12 w) := by
  intro n
  induction n with
  | zero => intro x1 x3 x4 x8 x9 x10 x11 x12 w; exact ev_none
  | succ n ih =>
    intro x1 x3 x4 x8 x9 x10 x11 x12 w
    rw [f_X5_ray_90]
    refine ev_iload hX dX5_ray_90 rfl ?_
    refine ev_iload hX dX5_ray_92 rfl ?_
    refine ev_icmp_ge (tgt := 176) hX dX5_ray_94 (by decide) ?_ ?_
    · refine ev_iload hX dX5_ray_176 rfl ?_
      exact ev_ireti hX hr dX5_ray_178
    · refine ev_iload hX dX5_ray_97 rfl ?_
      refine ev_iconst hX dX5_ray_99 (v := 0) (by decide +kernel) ?_
      refine ev_iconst hX dX5_ray_100 (v := 4) (by decide +kernel) ?_
      refine ev_callSi hX (As := [.inl x10, .inl 0, .inl 4]) (rm := rm_X5_in) (c_X5_in l D cI cC td x10 0 4 w) (cwS 3 hX.ts gX5_ray_X5_in rfl rfl rfl (by decide +kernel) ⟨Nat.le_of_ble_eq_true rfl, Nat.le_of_ble_eq_true rfl⟩) rfl rfl rfl ⟨Nat.le_of_ble_eq_true rfl, Nat.le_of_ble_eq_true rfl⟩ dX5_ray_101 rfl (fun z4 hz4 => ?_)
      refine ev_if_eq (tgt := 176) hX dX5_ray_104 (by decide) ?_ ?_
      · refine ev_iload hX dX5_ray_176 rfl ?_
        exact ev_ireti hX hr dX5_ray_178
      · refine ev_iload hX dX5_ray_107 rfl ?_
        refine ev_iconst hX dX5_ray_109 (v := 0) (by decide +kernel) ?_
        refine ev_iconst hX dX5_ray_110 (v := 4) (by decide +kernel) ?_
        refine ev_callSi hX (As := [.inl x11, .inl 0, .inl 4]) (rm := rm_X5_in) (c_X5_in l D cI cC td x11 0 4 z4.2) (cwS 3 hX.ts gX5_ray_X5_in rfl rfl rfl (by decide +kernel) ⟨Nat.le_of_ble_eq_true rfl, Nat.le_of_ble_eq_true rfl⟩) rfl rfl rfl ⟨Nat.le_of_ble_eq_true rfl, Nat.le_of_ble_eq_true rfl⟩ dX5_ray_111 rfl (fun z5 hz5 => ?_)
        refine ev_if_eq (tgt := 176) hX dX5_ray_114 (by decide) ?_ ?_
        · refine ev_iload hX dX5_ray_176 rfl ?_
          exact ev_ireti hX hr dX5_ray_178
        · refine ev_iload hX dX5_ray_117 rfl ?_
          refine ev_iconst hX dX5_ray_119 (v := 1) (by decide +kernel) ?_
          refine ev_iconst hX dX5_ray_120 (v := 5) (by decide +kernel) ?_
          refine ev_iload hX dX5_ray_121 rfl ?_
          refine ev_imul hX dX5_ray_123 ?_
          refine ev_iload hX dX5_ray_124 rfl ?_
          refine ev_iadd hX dX5_ray_126 ?_
          refine ev_ishl hX dX5_ray_127 ?_
          refine ev_ior hX dX5_ray_128 ?_
          refine ev_istore hX dX5_ray_129 rfl (L' := [some (.inr (.inl 0)), some (.inl x1), none, some (.inl x3), some (.inl x4), none, none, none, some (.inl x8), some (.inl (x9 ||| (1 <<< (((5 * x10) + x11) &&& 31)))), some (.inl x10), some (.inl x11), some (.inl x12)]) rfl ?_
          refine ev_aload_n hX dX5_ray_131 rfl ?_
          refine ev_getr (k := 0) hX (T := TX5) in_X5_ray_X5 rfl rfl rfl (show Cond.fieldLink RX5 7 "FiveShogiModel" "s" "[I" ∈ _ by decide +kernel) rfl dX5_ray_132 ?_
          refine ev_iload_n hX dX5_ray_135 rfl ?_
          refine ev_iconst hX dX5_ray_136 (v := 5) (by decide +kernel) ?_
          refine ev_iload hX dX5_ray_137 rfl ?_
          refine ev_imul hX dX5_ray_139 ?_
          refine ev_iadd hX dX5_ray_140 ?_
          refine ev_iload hX dX5_ray_141 rfl ?_
          refine ev_iadd hX dX5_ray_143 ?_
          refine ev_iald hX rfl dX5_ray_144 (fun j6 => ?_)
          refine ev_if_ne (tgt := 153) hX dX5_ray_145 (by decide) ?_ ?_
          · refine ev_iload hX dX5_ray_153 rfl ?_
            refine ev_mask [true, true, false, true, true, false, false, false, true, true, true, true, false] (L' := [some (.inr (.inl 0)), some (.inl x1), none, some (.inl x3), some (.inl x4), none, none, none, some (.inl x8), some (.inl (x9 ||| (1 <<< (((5 * x10) + x11) &&& 31)))), some (.inl x10), some (.inl x11), none]) rfl rfl ?_
            exact e_X5_ray_155 hX hr (fun x1' x3' x4' x8' x9' x10' x11' x12' w' => f_X5_ray_90 n x1' x3' x4' x8' x9' x10' x11' x12' w') (fun x1' x3' x4' x8' x9' x10' x11' x12' w' => ih x1' x3' x4' x8' x9' x10' x11' x12' w') x1 x3 x4 x8 (x9 ||| (1 <<< (((5 * x10) + x11) &&& 31))) x10 x11 x8 z5.2
          · refine ev_iload hX dX5_ray_148 rfl ?_
            refine ev_goto (tgt := 155) hX dX5_ray_150 (by decide) ?_
            refine ev_mask [true, true, false, true, true, false, false, false, true, true, true, true, false] (L' := [some (.inr (.inl 0)), some (.inl x1), none, some (.inl x3), some (.inl x4), none, none, none, some (.inl x8), some (.inl (x9 ||| (1 <<< (((5 * x10) + x11) &&& 31)))), some (.inl x10), some (.inl x11), none]) rfl rfl ?_
            exact e_X5_ray_155 hX hr (fun x1' x3' x4' x8' x9' x10' x11' x12' w' => f_X5_ray_90 n x1' x3' x4' x8' x9' x10' x11' x12' w') (fun x1' x3' x4' x8' x9' x10' x11' x12' w' => ih x1' x3' x4' x8' x9' x10' x11' x12' w') x1 x3 x4 x8 (x9 ||| (1 <<< (((5 * x10) + x11) &&& 31))) x10 x11 x12 z5.2
set_option maxHeartbeats 4000000 in
set_option maxRecDepth 100000 in
theorem e_X5_ray_67 (hX : mv_X p s m args meth c D vwCl cI cC tbX td A cX5_ray 13 RX5 wsX5_ray) (hr : meth.sig.returnType = (some .int)) (x1 : Int32) (x2 : Int32) (x3 : Int32) (x4 : Int32) (s0 : Int32) (w : mvW) : EV p l e (headSpec wsX5_ray rm_X5_ray).room s m args below meth c D vwCl cI cC td A (fun a => a = ad0) (mv_Qi below args s D vwCl cI cC shM ad0 A) 0 0 shM [some (.inr (.inl 0)), some (.inl x1), some (.inl x2), some (.inl x3), some (.inl x4), none, none, none, none, none, none, none, none] [.inl s0] 67 w (f_X5_ray_67 x1 x2 x3 x4 s0 w) := by
  rw [f_X5_ray_67]
  refine ev_istore hX dX5_ray_67 rfl (L' := [some (.inr (.inl 0)), some (.inl x1), some (.inl x2), some (.inl x3), some (.inl x4), none, none, none, some (.inl s0), none, none, none, none]) rfl ?_
  refine ev_iconst hX dX5_ray_69 (v := 0) (by decide +kernel) ?_
  refine ev_istore hX dX5_ray_70 rfl (L' := [some (.inr (.inl 0)), some (.inl x1), some (.inl x2), some (.inl x3), some (.inl x4), none, none, none, some (.inl s0), some (.inl 0), none, none, none]) rfl ?_
  refine ev_iload_n hX dX5_ray_72 rfl ?_
  refine ev_iconst hX dX5_ray_73 (v := 5) (by decide +kernel) ?_
  refine ev_idiv hX dX5_ray_74 (by decide) ?_
  refine ev_iload_n hX dX5_ray_75 rfl ?_
  refine ev_iadd hX dX5_ray_76 ?_
  refine ev_istore hX dX5_ray_77 rfl (L' := [some (.inr (.inl 0)), some (.inl x1), some (.inl x2), some (.inl x3), some (.inl x4), none, none, none, some (.inl s0), some (.inl 0), some (.inl ((x2 / 5) + x3)), none, none]) rfl ?_
  refine ev_iload_n hX dX5_ray_79 rfl ?_
  refine ev_iconst hX dX5_ray_80 (v := 5) (by decide +kernel) ?_
  refine ev_irem hX dX5_ray_81 (by decide) ?_
  refine ev_iload hX dX5_ray_82 rfl ?_
  refine ev_iadd hX dX5_ray_84 ?_
  refine ev_istore hX dX5_ray_85 rfl (L' := [some (.inr (.inl 0)), some (.inl x1), some (.inl x2), some (.inl x3), some (.inl x4), none, none, none, some (.inl s0), some (.inl 0), some (.inl ((x2 / 5) + x3)), some (.inl ((x2 - x2 / 5 * 5) + x4)), none]) rfl ?_
  refine ev_iconst hX dX5_ray_87 (v := 0) (by decide +kernel) ?_
  refine ev_istore hX dX5_ray_88 rfl (L' := [some (.inr (.inl 0)), some (.inl x1), some (.inl x2), some (.inl x3), some (.inl x4), none, none, none, some (.inl s0), some (.inl 0), some (.inl ((x2 / 5) + x3)), some (.inl ((x2 - x2 / 5 * 5) + x4)), some (.inl 0)]) rfl ?_
  refine ev_mask [true, true, false, true, true, false, false, false, true, true, true, true, true] (L' := [some (.inr (.inl 0)), some (.inl x1), none, some (.inl x3), some (.inl x4), none, none, none, some (.inl s0), some (.inl 0), some (.inl ((x2 / 5) + x3)), some (.inl ((x2 - x2 / 5 * 5) + x4)), some (.inl 0)]) rfl rfl ?_
  exact e_X5_ray_90 hX hr 4096 x1 x3 x4 s0 0 ((x2 / 5) + x3) ((x2 - x2 / 5 * 5) + x4) 0 w
set_option maxHeartbeats 4000000 in
set_option maxRecDepth 100000 in
theorem e_X5_ray_22 (hX : mv_X p s m args meth c D vwCl cI cC tbX td A cX5_ray 13 RX5 wsX5_ray) (hr : meth.sig.returnType = (some .int)) (x1 : Int32) (x2 : Int32) (x3 : Int32) (x4 : Int32) (x5 : Int32) (s0 : Int32) (w : mvW) : EV p l e (headSpec wsX5_ray rm_X5_ray).room s m args below meth c D vwCl cI cC td A (fun a => a = ad0) (mv_Qi below args s D vwCl cI cC shM ad0 A) 0 0 shM [some (.inr (.inl 0)), some (.inl x1), some (.inl x2), some (.inl x3), some (.inl x4), some (.inl x5), none, none, none, none, none, none, none] [.inl s0] 22 w (f_X5_ray_22 x1 x2 x3 x4 x5 s0 w) := by
  rw [f_X5_ray_22]
  refine ev_istore hX dX5_ray_22 rfl (L' := [some (.inr (.inl 0)), some (.inl x1), some (.inl x2), some (.inl x3), some (.inl x4), some (.inl x5), some (.inl s0), none, none, none, none, none, none]) rfl ?_
  refine ev_iload hX dX5_ray_24 rfl ?_
  refine ev_bipush hX dX5_ray_26 (v := 10) (by decide +kernel) ?_
  refine ev_irem hX dX5_ray_28 (by decide) ?_
  refine ev_iload hX dX5_ray_29 rfl ?_
  refine ev_iload hX dX5_ray_31 rfl ?_
  refine ev_callSi hX (As := [.inl (x5 - x5 / 10 * 10), .inl s0, .inl x4]) (rm := rm_X5_isLine) (c_X5_isLine l D cI cC td (x5 - x5 / 10 * 10) s0 x4 w) (cwS 3 hX.ts gX5_ray_X5_isLine rfl rfl rfl (by decide +kernel) ⟨Nat.le_of_ble_eq_true rfl, Nat.le_of_ble_eq_true rfl⟩) rfl rfl rfl ⟨Nat.le_of_ble_eq_true rfl, Nat.le_of_ble_eq_true rfl⟩ dX5_ray_33 rfl (fun z2 hz2 => ?_)
  refine ev_istore hX dX5_ray_36 rfl (L' := [some (.inr (.inl 0)), some (.inl x1), some (.inl x2), some (.inl x3), some (.inl x4), some (.inl x5), some (.inl s0), some (.inl z2.1), none, none, none, none, none]) rfl ?_
  refine ev_iload hX dX5_ray_38 rfl ?_
  refine ev_if_eq (tgt := 47) hX dX5_ray_40 (by decide) ?_ ?_
  · refine ev_iload hX dX5_ray_47 rfl ?_
    refine ev_bipush hX dX5_ray_49 (v := 10) (by decide +kernel) ?_
    refine ev_irem hX dX5_ray_51 (by decide) ?_
    refine ev_iload hX dX5_ray_52 rfl ?_
    refine ev_iload hX dX5_ray_54 rfl ?_
    refine ev_callSi hX (As := [.inl (x5 - x5 / 10 * 10), .inl s0, .inl x4]) (rm := rm_X5_isStep) (c_X5_isStep l D cI cC td (x5 - x5 / 10 * 10) s0 x4 z2.2) (cwS 3 hX.ts gX5_ray_X5_isStep rfl rfl rfl (by decide +kernel) ⟨Nat.le_of_ble_eq_true rfl, Nat.le_of_ble_eq_true rfl⟩) rfl rfl rfl ⟨Nat.le_of_ble_eq_true rfl, Nat.le_of_ble_eq_true rfl⟩ dX5_ray_56 rfl (fun z3 hz3 => ?_)
    refine ev_if_eq (tgt := 66) hX dX5_ray_59 (by decide) ?_ ?_
    · refine ev_iconst hX dX5_ray_66 (v := 0) (by decide +kernel) ?_
      refine ev_mask [true, true, true, true, true, false, false, false, false, false, false, false, false] (L' := [some (.inr (.inl 0)), some (.inl x1), some (.inl x2), some (.inl x3), some (.inl x4), none, none, none, none, none, none, none, none]) rfl rfl ?_
      exact e_X5_ray_67 hX hr x1 x2 x3 x4 0 z3.2
    · refine ev_iconst hX dX5_ray_62 (v := 1) (by decide +kernel) ?_
      refine ev_goto (tgt := 67) hX dX5_ray_63 (by decide) ?_
      refine ev_mask [true, true, true, true, true, false, false, false, false, false, false, false, false] (L' := [some (.inr (.inl 0)), some (.inl x1), some (.inl x2), some (.inl x3), some (.inl x4), none, none, none, none, none, none, none, none]) rfl rfl ?_
      exact e_X5_ray_67 hX hr x1 x2 x3 x4 1 z3.2
  · refine ev_iconst hX dX5_ray_43 (v := 4) (by decide +kernel) ?_
    refine ev_goto (tgt := 67) hX dX5_ray_44 (by decide) ?_
    refine ev_mask [true, true, true, true, true, false, false, false, false, false, false, false, false] (L' := [some (.inr (.inl 0)), some (.inl x1), some (.inl x2), some (.inl x3), some (.inl x4), none, none, none, none, none, none, none, none]) rfl rfl ?_
    exact e_X5_ray_67 hX hr x1 x2 x3 x4 4 z2.2
set_option maxHeartbeats 4000000 in
set_option maxRecDepth 100000 in
theorem c_X5_ray (l : Launch) (D : va_G) (cI cC : ClassId) (td : Nat → Option Nat) (a1 : Int32) (a2 : Int32) (a3 : Int32) (a4 : Int32) (w : mvW) : ∀ z, f_X5_ray a1 a2 a3 a4 w = some z → mv_Ci l D vwCl cI cC tbX td yX5_ray wsX5_ray rm_X5_ray shM w [.inr (.inl 0), .inl a1, .inl a2, .inl a3, .inl a4] z := by
  refine mv_starti (own := RX5) rfl (by decide) rfl rfl (L0 := [some (.inr (.inl 0)), some (.inl a1), some (.inl a2), some (.inl a3), some (.inl a4), none, none, none, none, none, none, none, none]) rfl (fun p e s m args below meth c A ad0 hX hr => ?_)
  rw [f_X5_ray]
  refine ev_aload_n hX dX5_ray_0 rfl ?_
  refine ev_iload_n hX dX5_ray_1 rfl ?_
  refine ev_iload_n hX dX5_ray_2 rfl ?_
  refine ev_callVi hX (k0 := 0) (As := [.inl a1, .inl a2]) (rm := rm_X5_manAt) (c_X5_manAt l D cI cC td a1 a2 w) (cwV 2 hX.ts gX5_ray_X5_manAt rfl rfl rfl (by decide +kernel) ⟨Nat.le_of_ble_eq_true rfl, Nat.le_of_ble_eq_true rfl⟩) rfl rfl rfl rfl rfl rfl ⟨Nat.le_of_ble_eq_true rfl, Nat.le_of_ble_eq_true rfl⟩ dX5_ray_3 rfl (fun z1 hz1 => ?_)
  refine ev_istore hX dX5_ray_6 rfl (L' := [some (.inr (.inl 0)), some (.inl a1), some (.inl a2), some (.inl a3), some (.inl a4), some (.inl z1.1), none, none, none, none, none, none, none]) rfl ?_
  refine ev_iload hX dX5_ray_8 rfl ?_
  refine ev_bipush hX dX5_ray_10 (v := 10) (by decide +kernel) ?_
  refine ev_idiv hX dX5_ray_12 (by decide) ?_
  refine ev_if_ne (tgt := 21) hX dX5_ray_13 (by decide) ?_ ?_
  · refine ev_iload_n hX dX5_ray_21 rfl ?_
    refine ev_mask [true, true, true, true, true, true, false, false, false, false, false, false, false] (L' := [some (.inr (.inl 0)), some (.inl a1), some (.inl a2), some (.inl a3), some (.inl a4), some (.inl z1.1), none, none, none, none, none, none, none]) rfl rfl ?_
    exact e_X5_ray_22 hX hr a1 a2 a3 a4 z1.1 a3 z1.2
  · refine ev_iload_n hX dX5_ray_16 rfl ?_
    refine ev_ineg hX dX5_ray_17 ?_
    refine ev_goto (tgt := 22) hX dX5_ray_18 (by decide) ?_
    refine ev_mask [true, true, true, true, true, true, false, false, false, false, false, false, false] (L' := [some (.inr (.inl 0)), some (.inl a1), some (.inl a2), some (.inl a3), some (.inl a4), some (.inl z1.1), none, none, none, none, none, none, none]) rfl rfl ?_
    exact e_X5_ray_22 hX hr a1 a2 a3 a4 z1.1 (-a3) z1.2
def rm_X5_attacksOf : Room := { frames := 2, cells := 0, slots := 0, locals := 55 }
set_option maxRecDepth 20000 in
theorem in_X5_attacksOf_X5 : ∀ w ∈ u_ws RX5 TX5 8, w ∈ wsX5_attacksOf := by decide +kernel
set_option maxHeartbeats 4000000 in
set_option maxRecDepth 100000 in
theorem e_X5_attacksOf_5 (hX : mv_X p s m args meth c D vwCl cI cC tbX td A cX5_attacksOf 5 RX5 wsX5_attacksOf) (hr : meth.sig.returnType = (some .int)) : ∀ (n : Nat) (x1 : Int32) (x2 : Int32) (x3 : Int32) (x4 : Int32) (w : mvW), EV p l e (headSpec wsX5_attacksOf rm_X5_attacksOf).room s m args below meth c D vwCl cI cC td A (fun a => a = ad0) (mv_Qi below args s D vwCl cI cC shM ad0 A) 0 0 shM [some (.inr (.inl 0)), some (.inl x1), some (.inl x2), some (.inl x3), some (.inl x4)] [] 5 w (f_X5_attacksOf_5 n x1 x2 x3 x4 w) := by
  intro n
  induction n with
  | zero => intro x1 x2 x3 x4 w; exact ev_none
  | succ n ih =>
    intro x1 x2 x3 x4 w
    rw [f_X5_attacksOf_5]
    refine ev_iload hX dX5_attacksOf_5 rfl ?_
    refine ev_bipush hX dX5_attacksOf_7 (v := 9) (by decide +kernel) ?_
    refine ev_icmp_ge (tgt := 60) hX dX5_attacksOf_9 (by decide) ?_ ?_
    · refine ev_iload_n hX dX5_attacksOf_60 rfl ?_
      exact ev_ireti hX hr dX5_attacksOf_61
    · refine ev_aload_n hX dX5_attacksOf_12 rfl ?_
      refine ev_getr (k := 0) hX (T := TX5) in_X5_attacksOf_X5 rfl rfl rfl (show Cond.fieldLink RX5 7 "FiveShogiModel" "s" "[I" ∈ _ by decide +kernel) rfl dX5_attacksOf_13 ?_
      refine ev_iload_n hX dX5_attacksOf_16 rfl ?_
      refine ev_iload_n hX dX5_attacksOf_17 rfl ?_
      refine ev_iadd hX dX5_attacksOf_18 ?_
      refine ev_iald hX rfl dX5_attacksOf_19 (fun j1 => ?_)
      refine ev_if_le (tgt := 60) hX dX5_attacksOf_20 (by decide) ?_ ?_
      · refine ev_iload_n hX dX5_attacksOf_60 rfl ?_
        exact ev_ireti hX hr dX5_attacksOf_61
      · refine ev_iload_n hX dX5_attacksOf_23 rfl ?_
        refine ev_iload hX dX5_attacksOf_24 rfl ?_
        refine ev_iconst hX dX5_attacksOf_26 (v := 4) (by decide +kernel) ?_
        refine ev_icmp_ne (tgt := 34) hX dX5_attacksOf_27 (by decide) ?_ ?_
        · refine ev_aload_n hX dX5_attacksOf_34 rfl ?_
          refine ev_iload_n hX dX5_attacksOf_35 rfl ?_
          refine ev_iload_n hX dX5_attacksOf_36 rfl ?_
          refine ev_iload hX dX5_attacksOf_37 rfl ?_
          refine ev_iconst hX dX5_attacksOf_39 (v := 3) (by decide +kernel) ?_
          refine ev_idiv hX dX5_attacksOf_40 (by decide) ?_
          refine ev_iconst hX dX5_attacksOf_41 (v := 1) (by decide +kernel) ?_
          refine ev_isub hX dX5_attacksOf_42 ?_
          refine ev_iload hX dX5_attacksOf_43 rfl ?_
          refine ev_iconst hX dX5_attacksOf_45 (v := 3) (by decide +kernel) ?_
          refine ev_irem hX dX5_attacksOf_46 (by decide) ?_
          refine ev_iconst hX dX5_attacksOf_47 (v := 1) (by decide +kernel) ?_
          refine ev_isub hX dX5_attacksOf_48 ?_
          refine ev_callVi hX (k0 := 0) (As := [.inl x1, .inl x2, .inl ((x4 / 3) - 1), .inl ((x4 - x4 / 3 * 3) - 1)]) (rm := rm_X5_ray) (c_X5_ray l D cI cC td x1 x2 ((x4 / 3) - 1) ((x4 - x4 / 3 * 3) - 1) w) (cwV 4 hX.ts gX5_attacksOf_X5_ray rfl rfl rfl (by decide +kernel) ⟨Nat.le_of_ble_eq_true rfl, Nat.le_of_ble_eq_true rfl⟩) rfl rfl rfl rfl rfl rfl ⟨Nat.le_of_ble_eq_true rfl, Nat.le_of_ble_eq_true rfl⟩ dX5_attacksOf_49 rfl (fun z2 hz2 => ?_)
          refine ev_ior hX dX5_attacksOf_52 ?_
          refine ev_istore_n hX dX5_attacksOf_53 rfl (L' := [some (.inr (.inl 0)), some (.inl x1), some (.inl x2), some (.inl (x3 ||| z2.1)), some (.inl x4)]) rfl ?_
          refine ev_iinc hX dX5_attacksOf_54 rfl (v := 1) (by decide +kernel) (L' := [some (.inr (.inl 0)), some (.inl x1), some (.inl x2), some (.inl (x3 ||| z2.1)), some (.inl (x4 + 1))]) rfl ?_
          refine ev_goto (tgt := 5) hX dX5_attacksOf_57 (by decide) ?_
          refine ev_mask [true, true, true, true, true] (L' := [some (.inr (.inl 0)), some (.inl x1), some (.inl x2), some (.inl (x3 ||| z2.1)), some (.inl (x4 + 1))]) rfl rfl ?_
          exact ih x1 x2 (x3 ||| z2.1) (x4 + 1) z2.2
        · refine ev_iconst hX dX5_attacksOf_30 (v := 0) (by decide +kernel) ?_
          refine ev_goto (tgt := 52) hX dX5_attacksOf_31 (by decide) ?_
          refine ev_ior hX dX5_attacksOf_52 ?_
          refine ev_istore_n hX dX5_attacksOf_53 rfl (L' := [some (.inr (.inl 0)), some (.inl x1), some (.inl x2), some (.inl (x3 ||| 0)), some (.inl x4)]) rfl ?_
          refine ev_iinc hX dX5_attacksOf_54 rfl (v := 1) (by decide +kernel) (L' := [some (.inr (.inl 0)), some (.inl x1), some (.inl x2), some (.inl (x3 ||| 0)), some (.inl (x4 + 1))]) rfl ?_
          refine ev_goto (tgt := 5) hX dX5_attacksOf_57 (by decide) ?_
          refine ev_mask [true, true, true, true, true] (L' := [some (.inr (.inl 0)), some (.inl x1), some (.inl x2), some (.inl (x3 ||| 0)), some (.inl (x4 + 1))]) rfl rfl ?_
          exact ih x1 x2 (x3 ||| 0) (x4 + 1) w
set_option maxHeartbeats 4000000 in
set_option maxRecDepth 100000 in
theorem c_X5_attacksOf (l : Launch) (D : va_G) (cI cC : ClassId) (td : Nat → Option Nat) (a1 : Int32) (a2 : Int32) (w : mvW) : ∀ z, f_X5_attacksOf a1 a2 w = some z → mv_Ci l D vwCl cI cC tbX td yX5_attacksOf wsX5_attacksOf rm_X5_attacksOf shM w [.inr (.inl 0), .inl a1, .inl a2] z := by
  refine mv_starti (own := RX5) rfl (by decide) rfl rfl (L0 := [some (.inr (.inl 0)), some (.inl a1), some (.inl a2), none, none]) rfl (fun p e s m args below meth c A ad0 hX hr => ?_)
  rw [f_X5_attacksOf]
  refine ev_iconst hX dX5_attacksOf_0 (v := 0) (by decide +kernel) ?_
  refine ev_istore_n hX dX5_attacksOf_1 rfl (L' := [some (.inr (.inl 0)), some (.inl a1), some (.inl a2), some (.inl 0), none]) rfl ?_
  refine ev_iconst hX dX5_attacksOf_2 (v := 0) (by decide +kernel) ?_
  refine ev_istore hX dX5_attacksOf_3 rfl (L' := [some (.inr (.inl 0)), some (.inl a1), some (.inl a2), some (.inl 0), some (.inl 0)]) rfl ?_
  refine ev_mask [true, true, true, true, true] (L' := [some (.inr (.inl 0)), some (.inl a1), some (.inl a2), some (.inl 0), some (.inl 0)]) rfl rfl ?_
  exact e_X5_attacksOf_5 hX hr 4096 a1 a2 0 0 w
def rm_X5_whyNotMove : Room := { frames := 3, cells := 0, slots := 0, locals := 79 }
set_option maxRecDepth 20000 in
theorem in_X5_whyNotMove_X5 : ∀ w ∈ u_ws RX5 TX5 8, w ∈ wsX5_whyNotMove := by decide +kernel
set_option maxHeartbeats 4000000 in
set_option maxRecDepth 100000 in
theorem e_X5_whyNotMove_139 (hX : mv_X p s m args meth c D vwCl cI cC tbX td A cX5_whyNotMove 9 RX5 wsX5_whyNotMove) (hr : meth.sig.returnType = (some .int)) (x2 : Int32) (x6 : Int32) (x7 : Int32) (s0 : Int32) (w : mvW) : EV p l e (headSpec wsX5_whyNotMove rm_X5_whyNotMove).room s m args below meth c D vwCl cI cC td A (fun a => a = ad0) (mv_Qi below args s D vwCl cI cC shM ad0 A) 0 0 shM [none, none, some (.inl x2), none, none, none, some (.inl x6), some (.inl x7), none] [.inl s0] 139 w (f_X5_whyNotMove_139 x2 x6 x7 s0 w) := by
  rw [f_X5_whyNotMove_139]
  refine ev_istore hX dX5_whyNotMove_139 rfl (L' := [none, none, some (.inl x2), none, none, none, some (.inl x6), some (.inl x7), some (.inl s0)]) rfl ?_
  refine ev_iload_n hX dX5_whyNotMove_141 rfl ?_
  refine ev_sipush hX dX5_whyNotMove_142 (v := 625) (by decide +kernel) ?_
  refine ev_icmp_lt (tgt := 159) hX dX5_whyNotMove_145 (by decide) ?_ ?_
  · refine ev_iload hX dX5_whyNotMove_159 rfl ?_
    refine ev_iconst hX dX5_whyNotMove_161 (v := 5) (by decide +kernel) ?_
    refine ev_icmp_ne (tgt := 174) hX dX5_whyNotMove_162 (by decide) ?_ ?_
    · refine ev_iconst hX dX5_whyNotMove_174 (v := 0) (by decide +kernel) ?_
      exact ev_ireti hX hr dX5_whyNotMove_175
    · refine ev_iload hX dX5_whyNotMove_165 rfl ?_
      refine ev_if_eq (tgt := 174) hX dX5_whyNotMove_167 (by decide) ?_ ?_
      · refine ev_iconst hX dX5_whyNotMove_174 (v := 0) (by decide +kernel) ?_
        exact ev_ireti hX hr dX5_whyNotMove_175
      · refine ev_iconst hX dX5_whyNotMove_170 (v := 5) (by decide +kernel) ?_
        refine ev_goto (tgt := 175) hX dX5_whyNotMove_171 (by decide) ?_
        exact ev_ireti hX hr dX5_whyNotMove_175
  · refine ev_iload hX dX5_whyNotMove_148 rfl ?_
    refine ev_if_eq (tgt := 157) hX dX5_whyNotMove_150 (by decide) ?_ ?_
    · refine ev_iconst hX dX5_whyNotMove_157 (v := 4) (by decide +kernel) ?_
      exact ev_ireti hX hr dX5_whyNotMove_158
    · refine ev_iconst hX dX5_whyNotMove_153 (v := 0) (by decide +kernel) ?_
      refine ev_goto (tgt := 158) hX dX5_whyNotMove_154 (by decide) ?_
      exact ev_ireti hX hr dX5_whyNotMove_158
set_option maxHeartbeats 4000000 in
set_option maxRecDepth 100000 in
theorem e_X5_whyNotMove_106 (hX : mv_X p s m args meth c D vwCl cI cC tbX td A cX5_whyNotMove 9 RX5 wsX5_whyNotMove) (hr : meth.sig.returnType = (some .int)) (x2 : Int32) (x3 : Int32) (x5 : Int32) (x6 : Int32) (s0 : Int32) (w : mvW) : EV p l e (headSpec wsX5_whyNotMove rm_X5_whyNotMove).room s m args below meth c D vwCl cI cC td A (fun a => a = ad0) (mv_Qi below args s D vwCl cI cC shM ad0 A) 0 0 shM [none, none, some (.inl x2), some (.inl x3), none, some (.inl x5), some (.inl x6), none, none] [.inl s0] 106 w (f_X5_whyNotMove_106 x2 x3 x5 x6 s0 w) := by
  rw [f_X5_whyNotMove_106]
  refine ev_istore hX dX5_whyNotMove_106 rfl (L' := [none, none, some (.inl x2), some (.inl x3), none, some (.inl x5), some (.inl x6), some (.inl s0), none]) rfl ?_
  refine ev_iload hX dX5_whyNotMove_108 rfl ?_
  refine ev_iconst hX dX5_whyNotMove_110 (v := 2) (by decide +kernel) ?_
  refine ev_iconst hX dX5_whyNotMove_111 (v := 5) (by decide +kernel) ?_
  refine ev_callSi hX (As := [.inl x6, .inl 2, .inl 5]) (rm := rm_X5_in) (c_X5_in l D cI cC td x6 2 5 w) (cwS 3 hX.ts gX5_whyNotMove_X5_in rfl rfl rfl (by decide +kernel) ⟨Nat.le_of_ble_eq_true rfl, Nat.le_of_ble_eq_true rfl⟩) rfl rfl rfl ⟨Nat.le_of_ble_eq_true rfl, Nat.le_of_ble_eq_true rfl⟩ dX5_whyNotMove_112 rfl (fun z9 hz9 => ?_)
  refine ev_if_eq (tgt := 138) hX dX5_whyNotMove_115 (by decide) ?_ ?_
  · refine ev_iconst hX dX5_whyNotMove_138 (v := 0) (by decide +kernel) ?_
    refine ev_mask [false, false, true, false, false, false, true, true, false] (L' := [none, none, some (.inl x2), none, none, none, some (.inl x6), some (.inl s0), none]) rfl rfl ?_
    exact e_X5_whyNotMove_139 hX hr x2 x6 s0 0 z9.2
  · refine ev_iload hX dX5_whyNotMove_118 rfl ?_
    refine ev_if_ne (tgt := 134) hX dX5_whyNotMove_120 (by decide) ?_ ?_
    · refine ev_iconst hX dX5_whyNotMove_134 (v := 1) (by decide +kernel) ?_
      refine ev_goto (tgt := 139) hX dX5_whyNotMove_135 (by decide) ?_
      refine ev_mask [false, false, true, false, false, false, true, true, false] (L' := [none, none, some (.inl x2), none, none, none, some (.inl x6), some (.inl s0), none]) rfl rfl ?_
      exact e_X5_whyNotMove_139 hX hr x2 x6 s0 1 z9.2
    · refine ev_iload_n hX dX5_whyNotMove_123 rfl ?_
      refine ev_iconst hX dX5_whyNotMove_124 (v := 5) (by decide +kernel) ?_
      refine ev_idiv hX dX5_whyNotMove_125 (by decide) ?_
      refine ev_iload hX dX5_whyNotMove_126 rfl ?_
      refine ev_callSi hX (As := [.inl x5]) (rm := rm_X5_lastRow) (c_X5_lastRow l D cI cC td x5 z9.2) (cwS 1 hX.ts gX5_whyNotMove_X5_lastRow rfl rfl rfl (by decide +kernel) ⟨Nat.le_of_ble_eq_true rfl, Nat.le_of_ble_eq_true rfl⟩) rfl rfl rfl ⟨Nat.le_of_ble_eq_true rfl, Nat.le_of_ble_eq_true rfl⟩ dX5_whyNotMove_128 rfl (fun z10 hz10 => ?_)
      refine ev_icmp_ne (tgt := 138) hX dX5_whyNotMove_131 (by decide) ?_ ?_
      · refine ev_iconst hX dX5_whyNotMove_138 (v := 0) (by decide +kernel) ?_
        refine ev_mask [false, false, true, false, false, false, true, true, false] (L' := [none, none, some (.inl x2), none, none, none, some (.inl x6), some (.inl s0), none]) rfl rfl ?_
        exact e_X5_whyNotMove_139 hX hr x2 x6 s0 0 z10.2
      · refine ev_iconst hX dX5_whyNotMove_134 (v := 1) (by decide +kernel) ?_
        refine ev_goto (tgt := 139) hX dX5_whyNotMove_135 (by decide) ?_
        refine ev_mask [false, false, true, false, false, false, true, true, false] (L' := [none, none, some (.inl x2), none, none, none, some (.inl x6), some (.inl s0), none]) rfl rfl ?_
        exact e_X5_whyNotMove_139 hX hr x2 x6 s0 1 z10.2
set_option maxHeartbeats 4000000 in
set_option maxRecDepth 100000 in
theorem c_X5_whyNotMove (l : Launch) (D : va_G) (cI cC : ClassId) (td : Nat → Option Nat) (a1 : Int32) (a2 : Int32) (w : mvW) : ∀ z, f_X5_whyNotMove a1 a2 w = some z → mv_Ci l D vwCl cI cC tbX td yX5_whyNotMove wsX5_whyNotMove rm_X5_whyNotMove shM w [.inr (.inl 0), .inl a1, .inl a2] z := by
  refine mv_starti (own := RX5) rfl (by decide) rfl rfl (L0 := [some (.inr (.inl 0)), some (.inl a1), some (.inl a2), none, none, none, none, none, none]) rfl (fun p e s m args below meth c A ad0 hX hr => ?_)
  rw [f_X5_whyNotMove]
  refine ev_iload_n hX dX5_whyNotMove_0 rfl ?_
  refine ev_callSi hX (As := [.inl a2]) (rm := rm_X5_from) (c_X5_from l D cI cC td a2 w) (cwS 1 hX.ts gX5_whyNotMove_X5_from rfl rfl rfl (by decide +kernel) ⟨Nat.le_of_ble_eq_true rfl, Nat.le_of_ble_eq_true rfl⟩) rfl rfl rfl ⟨Nat.le_of_ble_eq_true rfl, Nat.le_of_ble_eq_true rfl⟩ dX5_whyNotMove_1 rfl (fun z1 hz1 => ?_)
  refine ev_istore_n hX dX5_whyNotMove_4 rfl (L' := [some (.inr (.inl 0)), some (.inl a1), some (.inl a2), some (.inl z1.1), none, none, none, none, none]) rfl ?_
  refine ev_iload_n hX dX5_whyNotMove_5 rfl ?_
  refine ev_bipush hX dX5_whyNotMove_6 (v := 25) (by decide +kernel) ?_
  refine ev_irem hX dX5_whyNotMove_8 (by decide) ?_
  refine ev_istore hX dX5_whyNotMove_9 rfl (L' := [some (.inr (.inl 0)), some (.inl a1), some (.inl a2), some (.inl z1.1), some (.inl (a2 - a2 / 25 * 25)), none, none, none, none]) rfl ?_
  refine ev_aload_n hX dX5_whyNotMove_11 rfl ?_
  refine ev_getr (k := 0) hX (T := TX5) in_X5_whyNotMove_X5 rfl rfl rfl (show Cond.fieldLink RX5 7 "FiveShogiModel" "s" "[I" ∈ _ by decide +kernel) rfl dX5_whyNotMove_12 ?_
  refine ev_iload_n hX dX5_whyNotMove_15 rfl ?_
  refine ev_bipush hX dX5_whyNotMove_16 (v := 35) (by decide +kernel) ?_
  refine ev_iadd hX dX5_whyNotMove_18 ?_
  refine ev_iald hX rfl dX5_whyNotMove_19 (fun j2 => ?_)
  refine ev_istore hX dX5_whyNotMove_20 rfl (L' := [some (.inr (.inl 0)), some (.inl a1), some (.inl a2), some (.inl z1.1), some (.inl (a2 - a2 / 25 * 25)), some (.inl (z1.2 1 j2)), none, none, none]) rfl ?_
  refine ev_aload_n hX dX5_whyNotMove_22 rfl ?_
  refine ev_iload_n hX dX5_whyNotMove_23 rfl ?_
  refine ev_iload_n hX dX5_whyNotMove_24 rfl ?_
  refine ev_callVi hX (k0 := 0) (As := [.inl a1, .inl z1.1]) (rm := rm_X5_sideOn) (c_X5_sideOn l D cI cC td a1 z1.1 z1.2) (cwV 2 hX.ts gX5_whyNotMove_X5_sideOn rfl rfl rfl (by decide +kernel) ⟨Nat.le_of_ble_eq_true rfl, Nat.le_of_ble_eq_true rfl⟩) rfl rfl rfl rfl rfl rfl ⟨Nat.le_of_ble_eq_true rfl, Nat.le_of_ble_eq_true rfl⟩ dX5_whyNotMove_25 rfl (fun z3 hz3 => ?_)
  refine ev_iload hX dX5_whyNotMove_28 rfl ?_
  refine ev_icmp_eq (tgt := 35) hX dX5_whyNotMove_30 (by decide) ?_ ?_
  · refine ev_aload_n hX dX5_whyNotMove_35 rfl ?_
    refine ev_iload_n hX dX5_whyNotMove_36 rfl ?_
    refine ev_iload_n hX dX5_whyNotMove_37 rfl ?_
    refine ev_callVi hX (k0 := 0) (As := [.inl a1, .inl z1.1]) (rm := rm_X5_attacksOf) (c_X5_attacksOf l D cI cC td a1 z1.1 z3.2) (cwV 2 hX.ts gX5_whyNotMove_X5_attacksOf rfl rfl rfl (by decide +kernel) ⟨Nat.le_of_ble_eq_true rfl, Nat.le_of_ble_eq_true rfl⟩) rfl rfl rfl rfl rfl rfl ⟨Nat.le_of_ble_eq_true rfl, Nat.le_of_ble_eq_true rfl⟩ dX5_whyNotMove_38 rfl (fun z4 hz4 => ?_)
    refine ev_iload hX dX5_whyNotMove_41 rfl ?_
    refine ev_ishr hX dX5_whyNotMove_43 ?_
    refine ev_iconst hX dX5_whyNotMove_44 (v := 1) (by decide +kernel) ?_
    refine ev_iand hX dX5_whyNotMove_45 ?_
    refine ev_if_ne (tgt := 51) hX dX5_whyNotMove_46 (by decide) ?_ ?_
    · refine ev_aload_n hX dX5_whyNotMove_51 rfl ?_
      refine ev_iload_n hX dX5_whyNotMove_52 rfl ?_
      refine ev_iload hX dX5_whyNotMove_53 rfl ?_
      refine ev_callVi hX (k0 := 0) (As := [.inl a1, .inl (a2 - a2 / 25 * 25)]) (rm := rm_X5_sideOn) (c_X5_sideOn l D cI cC td a1 (a2 - a2 / 25 * 25) z4.2) (cwV 2 hX.ts gX5_whyNotMove_X5_sideOn rfl rfl rfl (by decide +kernel) ⟨Nat.le_of_ble_eq_true rfl, Nat.le_of_ble_eq_true rfl⟩) rfl rfl rfl rfl rfl rfl ⟨Nat.le_of_ble_eq_true rfl, Nat.le_of_ble_eq_true rfl⟩ dX5_whyNotMove_55 rfl (fun z5 hz5 => ?_)
      refine ev_iload hX dX5_whyNotMove_58 rfl ?_
      refine ev_icmp_eq (tgt := 76) hX dX5_whyNotMove_60 (by decide) ?_ ?_
      · refine ev_iconst hX dX5_whyNotMove_76 (v := 3) (by decide +kernel) ?_
        exact ev_ireti hX hr dX5_whyNotMove_77
      · refine ev_aload_n hX dX5_whyNotMove_63 rfl ?_
        refine ev_iload_n hX dX5_whyNotMove_64 rfl ?_
        refine ev_iload hX dX5_whyNotMove_65 rfl ?_
        refine ev_callVi hX (k0 := 0) (As := [.inl a1, .inl (a2 - a2 / 25 * 25)]) (rm := rm_X5_manAt) (c_X5_manAt l D cI cC td a1 (a2 - a2 / 25 * 25) z5.2) (cwV 2 hX.ts gX5_whyNotMove_X5_manAt rfl rfl rfl (by decide +kernel) ⟨Nat.le_of_ble_eq_true rfl, Nat.le_of_ble_eq_true rfl⟩) rfl rfl rfl rfl rfl rfl ⟨Nat.le_of_ble_eq_true rfl, Nat.le_of_ble_eq_true rfl⟩ dX5_whyNotMove_67 rfl (fun z6 hz6 => ?_)
        refine ev_bipush hX dX5_whyNotMove_70 (v := 10) (by decide +kernel) ?_
        refine ev_irem hX dX5_whyNotMove_72 (by decide) ?_
        refine ev_if_ne (tgt := 78) hX dX5_whyNotMove_73 (by decide) ?_ ?_
        · refine ev_aload_n hX dX5_whyNotMove_78 rfl ?_
          refine ev_iload_n hX dX5_whyNotMove_79 rfl ?_
          refine ev_iload_n hX dX5_whyNotMove_80 rfl ?_
          refine ev_callVi hX (k0 := 0) (As := [.inl a1, .inl z1.1]) (rm := rm_X5_manAt) (c_X5_manAt l D cI cC td a1 z1.1 z6.2) (cwV 2 hX.ts gX5_whyNotMove_X5_manAt rfl rfl rfl (by decide +kernel) ⟨Nat.le_of_ble_eq_true rfl, Nat.le_of_ble_eq_true rfl⟩) rfl rfl rfl rfl rfl rfl ⟨Nat.le_of_ble_eq_true rfl, Nat.le_of_ble_eq_true rfl⟩ dX5_whyNotMove_81 rfl (fun z7 hz7 => ?_)
          refine ev_bipush hX dX5_whyNotMove_84 (v := 10) (by decide +kernel) ?_
          refine ev_irem hX dX5_whyNotMove_86 (by decide) ?_
          refine ev_istore hX dX5_whyNotMove_87 rfl (L' := [some (.inr (.inl 0)), some (.inl a1), some (.inl a2), some (.inl z1.1), some (.inl (a2 - a2 / 25 * 25)), some (.inl (z1.2 1 j2)), some (.inl (z7.1 - z7.1 / 10 * 10)), none, none]) rfl ?_
          refine ev_iload hX dX5_whyNotMove_89 rfl ?_
          refine ev_iconst hX dX5_whyNotMove_91 (v := 5) (by decide +kernel) ?_
          refine ev_idiv hX dX5_whyNotMove_92 (by decide) ?_
          refine ev_iload hX dX5_whyNotMove_93 rfl ?_
          refine ev_callSi hX (As := [.inl (z1.2 1 j2)]) (rm := rm_X5_lastRow) (c_X5_lastRow l D cI cC td (z1.2 1 j2) z7.2) (cwS 1 hX.ts gX5_whyNotMove_X5_lastRow rfl rfl rfl (by decide +kernel) ⟨Nat.le_of_ble_eq_true rfl, Nat.le_of_ble_eq_true rfl⟩) rfl rfl rfl ⟨Nat.le_of_ble_eq_true rfl, Nat.le_of_ble_eq_true rfl⟩ dX5_whyNotMove_95 rfl (fun z8 hz8 => ?_)
          refine ev_icmp_ne (tgt := 105) hX dX5_whyNotMove_98 (by decide) ?_ ?_
          · refine ev_iconst hX dX5_whyNotMove_105 (v := 0) (by decide +kernel) ?_
            refine ev_mask [false, false, true, true, false, true, true, false, false] (L' := [none, none, some (.inl a2), some (.inl z1.1), none, some (.inl (z1.2 1 j2)), some (.inl (z7.1 - z7.1 / 10 * 10)), none, none]) rfl rfl ?_
            exact e_X5_whyNotMove_106 hX hr a2 z1.1 (z1.2 1 j2) (z7.1 - z7.1 / 10 * 10) 0 z8.2
          · refine ev_iconst hX dX5_whyNotMove_101 (v := 1) (by decide +kernel) ?_
            refine ev_goto (tgt := 106) hX dX5_whyNotMove_102 (by decide) ?_
            refine ev_mask [false, false, true, true, false, true, true, false, false] (L' := [none, none, some (.inl a2), some (.inl z1.1), none, some (.inl (z1.2 1 j2)), some (.inl (z7.1 - z7.1 / 10 * 10)), none, none]) rfl rfl ?_
            exact e_X5_whyNotMove_106 hX hr a2 z1.1 (z1.2 1 j2) (z7.1 - z7.1 / 10 * 10) 1 z8.2
        · refine ev_iconst hX dX5_whyNotMove_76 (v := 3) (by decide +kernel) ?_
          exact ev_ireti hX hr dX5_whyNotMove_77
    · refine ev_iconst hX dX5_whyNotMove_49 (v := 2) (by decide +kernel) ?_
      exact ev_ireti hX hr dX5_whyNotMove_50
  · refine ev_iconst hX dX5_whyNotMove_33 (v := 1) (by decide +kernel) ?_
    exact ev_ireti hX hr dX5_whyNotMove_34
def rm_X5_whyNot : Room := { frames := 4, cells := 0, slots := 0, locals := 107 }
set_option maxHeartbeats 4000000 in
set_option maxRecDepth 100000 in
theorem c_X5_whyNot (l : Launch) (D : va_G) (cI cC : ClassId) (td : Nat → Option Nat) (a1 : Int32) (a2 : Int32) (w : mvW) : ∀ z, f_X5_whyNot a1 a2 w = some z → mv_Ci l D vwCl cI cC tbX td yX5_whyNot wsX5_whyNot rm_X5_whyNot shM w [.inr (.inl 0), .inl a1, .inl a2] z := by
  refine mv_starti (own := RX5) rfl (by decide) rfl rfl (L0 := [some (.inr (.inl 0)), some (.inl a1), some (.inl a2)]) rfl (fun p e s m args below meth c A ad0 hX hr => ?_)
  rw [f_X5_whyNot]
  refine ev_iload_n hX dX5_whyNot_0 rfl ?_
  refine ev_sipush hX dX5_whyNot_1 (v := 1250) (by decide +kernel) ?_
  refine ev_icmp_ge (tgt := 16) hX dX5_whyNot_4 (by decide) ?_ ?_
  · refine ev_aload_n hX dX5_whyNot_16 rfl ?_
    refine ev_iload_n hX dX5_whyNot_17 rfl ?_
    refine ev_iload_n hX dX5_whyNot_18 rfl ?_
    refine ev_callVi hX (k0 := 0) (As := [.inl a1, .inl a2]) (rm := rm_X5_whyNotDrop) (c_X5_whyNotDrop l D cI cC td a1 a2 w) (cwV 2 hX.ts gX5_whyNot_X5_whyNotDrop rfl rfl rfl (by decide +kernel) ⟨Nat.le_of_ble_eq_true rfl, Nat.le_of_ble_eq_true rfl⟩) rfl rfl rfl rfl rfl rfl ⟨Nat.le_of_ble_eq_true rfl, Nat.le_of_ble_eq_true rfl⟩ dX5_whyNot_19 rfl (fun z1 hz1 => ?_)
    exact ev_ireti hX hr dX5_whyNot_22
  · refine ev_aload_n hX dX5_whyNot_7 rfl ?_
    refine ev_iload_n hX dX5_whyNot_8 rfl ?_
    refine ev_iload_n hX dX5_whyNot_9 rfl ?_
    refine ev_callVi hX (k0 := 0) (As := [.inl a1, .inl a2]) (rm := rm_X5_whyNotMove) (c_X5_whyNotMove l D cI cC td a1 a2 w) (cwV 2 hX.ts gX5_whyNot_X5_whyNotMove rfl rfl rfl (by decide +kernel) ⟨Nat.le_of_ble_eq_true rfl, Nat.le_of_ble_eq_true rfl⟩) rfl rfl rfl rfl rfl rfl ⟨Nat.le_of_ble_eq_true rfl, Nat.le_of_ble_eq_true rfl⟩ dX5_whyNot_10 rfl (fun z2 hz2 => ?_)
    refine ev_goto (tgt := 22) hX dX5_whyNot_13 (by decide) ?_
    exact ev_ireti hX hr dX5_whyNot_22
def rm_X5_makes : Room := { frames := 1, cells := 0, slots := 0, locals := 22 }
set_option maxRecDepth 20000 in
theorem in_X5_makes_X5 : ∀ w ∈ u_ws RX5 TX5 8, w ∈ wsX5_makes := by decide +kernel
set_option maxHeartbeats 4000000 in
set_option maxRecDepth 100000 in
theorem e_X5_makes_218 (hX : mv_X p s m args meth c D vwCl cI cC tbX td A cX5_makes 8 RX5 wsX5_makes) (hr : meth.sig.returnType = (some .int)) (x1 : Int32) (x2 : Int32) (x5 : Int32) (x6 : Int32) (s0 : Int32) (s1 : Int32) (s2 : Int32) (w : mvW) : EV p l e (headSpec wsX5_makes rm_X5_makes).room s m args below meth c D vwCl cI cC td A (fun a => a = ad0) (mv_Qi below args s D vwCl cI cC shM ad0 A) 0 0 shM [some (.inr (.inl 0)), some (.inl x1), some (.inl x2), none, none, some (.inl x5), some (.inl x6), none] [.inl s0, .inl s1, .inl s2, .inr (.inl 1)] 218 w (f_X5_makes_218 x1 x2 x5 x6 s0 s1 s2 w) := by
  rw [f_X5_makes_218]
  refine ev_iadd hX dX5_makes_218 ?_
  refine ev_iast hX rfl dX5_makes_219 (fun j19 => ?_)
  refine ev_aload_n hX dX5_makes_220 rfl ?_
  refine ev_getr (k := 0) hX (T := TX5) in_X5_makes_X5 rfl rfl rfl (show Cond.fieldLink RX5 7 "FiveShogiModel" "s" "[I" ∈ _ by decide +kernel) rfl dX5_makes_221 ?_
  refine ev_iload_n hX dX5_makes_224 rfl ?_
  refine ev_iload hX dX5_makes_225 rfl ?_
  refine ev_iadd hX dX5_makes_227 ?_
  refine ev_iconst hX dX5_makes_228 (v := 0) (by decide +kernel) ?_
  refine ev_iast hX rfl dX5_makes_229 (fun j20 => ?_)
  refine ev_aload_n hX dX5_makes_230 rfl ?_
  refine ev_getr (k := 0) hX (T := TX5) in_X5_makes_X5 rfl rfl rfl (show Cond.fieldLink RX5 7 "FiveShogiModel" "s" "[I" ∈ _ by decide +kernel) rfl dX5_makes_231 ?_
  refine ev_iload_n hX dX5_makes_234 rfl ?_
  refine ev_bipush hX dX5_makes_235 (v := 38) (by decide +kernel) ?_
  refine ev_iadd hX dX5_makes_237 ?_
  refine ev_dup2 hX dX5_makes_238 ?_
  refine ev_iald hX rfl dX5_makes_239 (fun j21 => ?_)
  refine ev_iload_n hX dX5_makes_240 rfl ?_
  refine ev_sipush hX dX5_makes_241 (v := 625) (by decide +kernel) ?_
  refine ev_icmp_ge (tgt := 251) hX dX5_makes_244 (by decide) ?_ ?_
  · refine ev_iconst hX dX5_makes_251 (v := 1) (by decide +kernel) ?_
    refine ev_iadd hX dX5_makes_252 ?_
    refine ev_iast hX rfl dX5_makes_253 (fun j22 => ?_)
    refine ev_iload hX dX5_makes_254 rfl ?_
    exact ev_ireti hX hr dX5_makes_256
  · refine ev_iconst hX dX5_makes_247 (v := 0) (by decide +kernel) ?_
    refine ev_goto (tgt := 252) hX dX5_makes_248 (by decide) ?_
    refine ev_iadd hX dX5_makes_252 ?_
    refine ev_iast hX rfl dX5_makes_253 (fun j23 => ?_)
    refine ev_iload hX dX5_makes_254 rfl ?_
    exact ev_ireti hX hr dX5_makes_256
set_option maxHeartbeats 4000000 in
set_option maxRecDepth 100000 in
theorem e_X5_makes_189 (hX : mv_X p s m args meth c D vwCl cI cC tbX td A cX5_makes 8 RX5 wsX5_makes) (hr : meth.sig.returnType = (some .int)) (x1 : Int32) (x2 : Int32) (x4 : Int32) (x5 : Int32) (x6 : Int32) (w : mvW) : EV p l e (headSpec wsX5_makes rm_X5_makes).room s m args below meth c D vwCl cI cC td A (fun a => a = ad0) (mv_Qi below args s D vwCl cI cC shM ad0 A) 0 0 shM [some (.inr (.inl 0)), some (.inl x1), some (.inl x2), none, some (.inl x4), some (.inl x5), some (.inl x6), none] [] 189 w (f_X5_makes_189 x1 x2 x4 x5 x6 w) := by
  rw [f_X5_makes_189]
  refine ev_aload_n hX dX5_makes_189 rfl ?_
  refine ev_getr (k := 0) hX (T := TX5) in_X5_makes_X5 rfl rfl rfl (show Cond.fieldLink RX5 7 "FiveShogiModel" "s" "[I" ∈ _ by decide +kernel) rfl dX5_makes_190 ?_
  refine ev_iload_n hX dX5_makes_193 rfl ?_
  refine ev_iload hX dX5_makes_194 rfl ?_
  refine ev_iadd hX dX5_makes_196 ?_
  refine ev_aload_n hX dX5_makes_197 rfl ?_
  refine ev_getr (k := 0) hX (T := TX5) in_X5_makes_X5 rfl rfl rfl (show Cond.fieldLink RX5 7 "FiveShogiModel" "s" "[I" ∈ _ by decide +kernel) rfl dX5_makes_198 ?_
  refine ev_iload_n hX dX5_makes_201 rfl ?_
  refine ev_iload hX dX5_makes_202 rfl ?_
  refine ev_iadd hX dX5_makes_204 ?_
  refine ev_iald hX rfl dX5_makes_205 (fun j14 => ?_)
  refine ev_iload_n hX dX5_makes_206 rfl ?_
  refine ev_sipush hX dX5_makes_207 (v := 625) (by decide +kernel) ?_
  refine ev_icmp_ge (tgt := 217) hX dX5_makes_210 (by decide) ?_ ?_
  · refine ev_iconst hX dX5_makes_217 (v := 4) (by decide +kernel) ?_
    refine ev_mask [true, true, true, false, false, true, true, false] (L' := [some (.inr (.inl 0)), some (.inl x1), some (.inl x2), none, none, some (.inl x5), some (.inl x6), none]) rfl rfl ?_
    exact e_X5_makes_218 hX hr x1 x2 x5 x6 4 (w 1 j14) (x1 + x4) w
  · refine ev_iconst hX dX5_makes_213 (v := 0) (by decide +kernel) ?_
    refine ev_goto (tgt := 218) hX dX5_makes_214 (by decide) ?_
    refine ev_mask [true, true, true, false, false, true, true, false] (L' := [some (.inr (.inl 0)), some (.inl x1), some (.inl x2), none, none, some (.inl x5), some (.inl x6), none]) rfl rfl ?_
    exact e_X5_makes_218 hX hr x1 x2 x5 x6 0 (w 1 j14) (x1 + x4) w
set_option maxHeartbeats 4000000 in
set_option maxRecDepth 100000 in
theorem e_X5_makes_152 (hX : mv_X p s m args meth c D vwCl cI cC tbX td A cX5_makes 8 RX5 wsX5_makes) (hr : meth.sig.returnType = (some .int)) (k189 : Int32 → Int32 → Int32 → Int32 → Int32 → mvW → Option (Int32 × mvW)) (hk189 : ∀ (x1 : Int32) (x2 : Int32) (x4 : Int32) (x5 : Int32) (x6 : Int32) (w : mvW), EV p l e (headSpec wsX5_makes rm_X5_makes).room s m args below meth c D vwCl cI cC td A (fun a => a = ad0) (mv_Qi below args s D vwCl cI cC shM ad0 A) 0 0 shM [some (.inr (.inl 0)), some (.inl x1), some (.inl x2), none, some (.inl x4), some (.inl x5), some (.inl x6), none] [] 189 w (k189 x1 x2 x4 x5 x6 w)) (x1 : Int32) (x2 : Int32) (x3 : Int32) (x4 : Int32) (x5 : Int32) (x6 : Int32) (s0 : Int32) (w : mvW) : EV p l e (headSpec wsX5_makes rm_X5_makes).room s m args below meth c D vwCl cI cC td A (fun a => a = ad0) (mv_Qi below args s D vwCl cI cC shM ad0 A) 0 0 shM [some (.inr (.inl 0)), some (.inl x1), some (.inl x2), some (.inl x3), some (.inl x4), some (.inl x5), some (.inl x6), none] [.inl s0] 152 w (f_X5_makes_152 k189 x1 x2 x3 x4 x5 x6 s0 w) := by
  rw [f_X5_makes_152]
  refine ev_istore hX dX5_makes_152 rfl (L' := [some (.inr (.inl 0)), some (.inl x1), some (.inl x2), some (.inl x3), some (.inl x4), some (.inl x5), some (.inl x6), some (.inl s0)]) rfl ?_
  refine ev_aload_n hX dX5_makes_154 rfl ?_
  refine ev_getr (k := 0) hX (T := TX5) in_X5_makes_X5 rfl rfl rfl (show Cond.fieldLink RX5 7 "FiveShogiModel" "s" "[I" ∈ _ by decide +kernel) rfl dX5_makes_155 ?_
  refine ev_iload_n hX dX5_makes_158 rfl ?_
  refine ev_bipush hX dX5_makes_159 (v := 25) (by decide +kernel) ?_
  refine ev_iadd hX dX5_makes_161 ?_
  refine ev_iconst hX dX5_makes_162 (v := 5) (by decide +kernel) ?_
  refine ev_iload_n hX dX5_makes_163 rfl ?_
  refine ev_imul hX dX5_makes_164 ?_
  refine ev_iadd hX dX5_makes_165 ?_
  refine ev_iload hX dX5_makes_166 rfl ?_
  refine ev_iadd hX dX5_makes_168 ?_
  refine ev_iconst hX dX5_makes_169 (v := 1) (by decide +kernel) ?_
  refine ev_isub hX dX5_makes_170 ?_
  refine ev_dup2 hX dX5_makes_171 ?_
  refine ev_iald hX rfl dX5_makes_172 (fun j15 => ?_)
  refine ev_iconst hX dX5_makes_173 (v := 1) (by decide +kernel) ?_
  refine ev_iadd hX dX5_makes_174 ?_
  refine ev_iast hX rfl dX5_makes_175 (fun j16 => ?_)
  refine ev_aload_n hX dX5_makes_176 rfl ?_
  refine ev_getr (k := 0) hX (T := TX5) in_X5_makes_X5 rfl rfl rfl (show Cond.fieldLink RX5 7 "FiveShogiModel" "s" "[I" ∈ _ by decide +kernel) rfl dX5_makes_177 ?_
  refine ev_iload_n hX dX5_makes_180 rfl ?_
  refine ev_bipush hX dX5_makes_181 (v := 37) (by decide +kernel) ?_
  refine ev_iadd hX dX5_makes_183 ?_
  refine ev_dup2 hX dX5_makes_184 ?_
  refine ev_iald hX rfl dX5_makes_185 (fun j17 => ?_)
  refine ev_iconst hX dX5_makes_186 (v := 1) (by decide +kernel) ?_
  refine ev_iadd hX dX5_makes_187 ?_
  refine ev_iast hX rfl dX5_makes_188 (fun j18 => ?_)
  refine ev_mask [true, true, true, false, true, true, true, false] (L' := [some (.inr (.inl 0)), some (.inl x1), some (.inl x2), none, some (.inl x4), some (.inl x5), some (.inl x6), none]) rfl rfl ?_
  exact hk189 x1 x2 x4 x5 x6 (mv_up (mv_up w 1 j16 ((w 1 j15) + 1)) 1 j18 (((mv_up w 1 j16 ((w 1 j15) + 1)) 1 j17) + 1))
set_option maxHeartbeats 4000000 in
set_option maxRecDepth 100000 in
theorem c_X5_makes (l : Launch) (D : va_G) (cI cC : ClassId) (td : Nat → Option Nat) (a1 : Int32) (a2 : Int32) (w : mvW) : ∀ z, f_X5_makes a1 a2 w = some z → mv_Ci l D vwCl cI cC tbX td yX5_makes wsX5_makes rm_X5_makes shM w [.inr (.inl 0), .inl a1, .inl a2] z := by
  refine mv_starti (own := RX5) rfl (by decide) rfl rfl (L0 := [some (.inr (.inl 0)), some (.inl a1), some (.inl a2), none, none, none, none, none]) rfl (fun p e s m args below meth c A ad0 hX hr => ?_)
  rw [f_X5_makes]
  refine ev_aload_n hX dX5_makes_0 rfl ?_
  refine ev_getr (k := 0) hX (T := TX5) in_X5_makes_X5 rfl rfl rfl (show Cond.fieldLink RX5 7 "FiveShogiModel" "s" "[I" ∈ _ by decide +kernel) rfl dX5_makes_1 ?_
  refine ev_iload_n hX dX5_makes_4 rfl ?_
  refine ev_bipush hX dX5_makes_5 (v := 35) (by decide +kernel) ?_
  refine ev_iadd hX dX5_makes_7 ?_
  refine ev_iald hX rfl dX5_makes_8 (fun j1 => ?_)
  refine ev_istore_n hX dX5_makes_9 rfl (L' := [some (.inr (.inl 0)), some (.inl a1), some (.inl a2), some (.inl (w 1 j1)), none, none, none, none]) rfl ?_
  refine ev_iload_n hX dX5_makes_10 rfl ?_
  refine ev_bipush hX dX5_makes_11 (v := 25) (by decide +kernel) ?_
  refine ev_irem hX dX5_makes_13 (by decide) ?_
  refine ev_istore hX dX5_makes_14 rfl (L' := [some (.inr (.inl 0)), some (.inl a1), some (.inl a2), some (.inl (w 1 j1)), some (.inl (a2 - a2 / 25 * 25)), none, none, none]) rfl ?_
  refine ev_aload_n hX dX5_makes_16 rfl ?_
  refine ev_iload_n hX dX5_makes_17 rfl ?_
  refine ev_iload hX dX5_makes_18 rfl ?_
  refine ev_callVi hX (k0 := 0) (As := [.inl a1, .inl (a2 - a2 / 25 * 25)]) (rm := rm_X5_manAt) (c_X5_manAt l D cI cC td a1 (a2 - a2 / 25 * 25) w) (cwV 2 hX.ts gX5_makes_X5_manAt rfl rfl rfl (by decide +kernel) ⟨Nat.le_of_ble_eq_true rfl, Nat.le_of_ble_eq_true rfl⟩) rfl rfl rfl rfl rfl rfl ⟨Nat.le_of_ble_eq_true rfl, Nat.le_of_ble_eq_true rfl⟩ dX5_makes_20 rfl (fun z2 hz2 => ?_)
  refine ev_istore hX dX5_makes_23 rfl (L' := [some (.inr (.inl 0)), some (.inl a1), some (.inl a2), some (.inl (w 1 j1)), some (.inl (a2 - a2 / 25 * 25)), some (.inl z2.1), none, none]) rfl ?_
  refine ev_aload_n hX dX5_makes_25 rfl ?_
  refine ev_getr (k := 0) hX (T := TX5) in_X5_makes_X5 rfl rfl rfl (show Cond.fieldLink RX5 7 "FiveShogiModel" "s" "[I" ∈ _ by decide +kernel) rfl dX5_makes_26 ?_
  refine ev_iload_n hX dX5_makes_29 rfl ?_
  refine ev_bipush hX dX5_makes_30 (v := 35) (by decide +kernel) ?_
  refine ev_iadd hX dX5_makes_32 ?_
  refine ev_iconst hX dX5_makes_33 (v := 1) (by decide +kernel) ?_
  refine ev_iload_n hX dX5_makes_34 rfl ?_
  refine ev_isub hX dX5_makes_35 ?_
  refine ev_iast hX rfl dX5_makes_36 (fun j3 => ?_)
  refine ev_aload_n hX dX5_makes_37 rfl ?_
  refine ev_getr (k := 0) hX (T := TX5) in_X5_makes_X5 rfl rfl rfl (show Cond.fieldLink RX5 7 "FiveShogiModel" "s" "[I" ∈ _ by decide +kernel) rfl dX5_makes_38 ?_
  refine ev_iload_n hX dX5_makes_41 rfl ?_
  refine ev_bipush hX dX5_makes_42 (v := 36) (by decide +kernel) ?_
  refine ev_iadd hX dX5_makes_44 ?_
  refine ev_dup2 hX dX5_makes_45 ?_
  refine ev_iald hX rfl dX5_makes_46 (fun j4 => ?_)
  refine ev_iconst hX dX5_makes_47 (v := 1) (by decide +kernel) ?_
  refine ev_iadd hX dX5_makes_48 ?_
  refine ev_iast hX rfl dX5_makes_49 (fun j5 => ?_)
  refine ev_iload_n hX dX5_makes_50 rfl ?_
  refine ev_sipush hX dX5_makes_51 (v := 1250) (by decide +kernel) ?_
  refine ev_icmp_lt (tgt := 117) hX dX5_makes_54 (by decide) ?_ ?_
  · refine ev_iload_n hX dX5_makes_117 rfl ?_
    refine ev_callSi hX (As := [.inl a2]) (rm := rm_X5_from) (c_X5_from l D cI cC td a2 (mv_up (mv_up z2.2 1 j3 (1 - (w 1 j1))) 1 j5 (((mv_up z2.2 1 j3 (1 - (w 1 j1))) 1 j4) + 1))) (cwS 1 hX.ts gX5_makes_X5_from rfl rfl rfl (by decide +kernel) ⟨Nat.le_of_ble_eq_true rfl, Nat.le_of_ble_eq_true rfl⟩) rfl rfl rfl ⟨Nat.le_of_ble_eq_true rfl, Nat.le_of_ble_eq_true rfl⟩ dX5_makes_118 rfl (fun z6 hz6 => ?_)
    refine ev_istore hX dX5_makes_121 rfl (L' := [some (.inr (.inl 0)), some (.inl a1), some (.inl a2), some (.inl (w 1 j1)), some (.inl (a2 - a2 / 25 * 25)), some (.inl z2.1), some (.inl z6.1), none]) rfl ?_
    refine ev_iload hX dX5_makes_123 rfl ?_
    refine ev_if_lt (tgt := 189) hX dX5_makes_125 (by decide) ?_ ?_
    · refine ev_mask [true, true, true, false, true, true, true, false] (L' := [some (.inr (.inl 0)), some (.inl a1), some (.inl a2), none, some (.inl (a2 - a2 / 25 * 25)), some (.inl z2.1), some (.inl z6.1), none]) rfl rfl ?_
      exact e_X5_makes_189 hX hr a1 a2 (a2 - a2 / 25 * 25) z2.1 z6.1 z6.2
    · refine ev_iload hX dX5_makes_128 rfl ?_
      refine ev_bipush hX dX5_makes_130 (v := 10) (by decide +kernel) ?_
      refine ev_irem hX dX5_makes_132 (by decide) ?_
      refine ev_iconst hX dX5_makes_133 (v := 5) (by decide +kernel) ?_
      refine ev_icmp_le (tgt := 147) hX dX5_makes_134 (by decide) ?_ ?_
      · refine ev_iload hX dX5_makes_147 rfl ?_
        refine ev_bipush hX dX5_makes_149 (v := 10) (by decide +kernel) ?_
        refine ev_irem hX dX5_makes_151 (by decide) ?_
        refine ev_mask [true, true, true, true, true, true, true, false] (L' := [some (.inr (.inl 0)), some (.inl a1), some (.inl a2), some (.inl (w 1 j1)), some (.inl (a2 - a2 / 25 * 25)), some (.inl z2.1), some (.inl z6.1), none]) rfl rfl ?_
        exact e_X5_makes_152 hX hr (fun x1' x2' x4' x5' x6' w' => f_X5_makes_189 x1' x2' x4' x5' x6' w') (fun x1' x2' x4' x5' x6' w' => e_X5_makes_189 hX hr x1' x2' x4' x5' x6' w') a1 a2 (w 1 j1) (a2 - a2 / 25 * 25) z2.1 z6.1 (z2.1 - z2.1 / 10 * 10) z6.2
      · refine ev_iload hX dX5_makes_137 rfl ?_
        refine ev_bipush hX dX5_makes_139 (v := 10) (by decide +kernel) ?_
        refine ev_irem hX dX5_makes_141 (by decide) ?_
        refine ev_iconst hX dX5_makes_142 (v := 4) (by decide +kernel) ?_
        refine ev_isub hX dX5_makes_143 ?_
        refine ev_goto (tgt := 152) hX dX5_makes_144 (by decide) ?_
        refine ev_mask [true, true, true, true, true, true, true, false] (L' := [some (.inr (.inl 0)), some (.inl a1), some (.inl a2), some (.inl (w 1 j1)), some (.inl (a2 - a2 / 25 * 25)), some (.inl z2.1), some (.inl z6.1), none]) rfl rfl ?_
        exact e_X5_makes_152 hX hr (fun x1' x2' x4' x5' x6' w' => f_X5_makes_189 x1' x2' x4' x5' x6' w') (fun x1' x2' x4' x5' x6' w' => e_X5_makes_189 hX hr x1' x2' x4' x5' x6' w') a1 a2 (w 1 j1) (a2 - a2 / 25 * 25) z2.1 z6.1 ((z2.1 - z2.1 / 10 * 10) - 4) z6.2
  · refine ev_aload_n hX dX5_makes_57 rfl ?_
    refine ev_getr (k := 0) hX (T := TX5) in_X5_makes_X5 rfl rfl rfl (show Cond.fieldLink RX5 7 "FiveShogiModel" "s" "[I" ∈ _ by decide +kernel) rfl dX5_makes_58 ?_
    refine ev_iload_n hX dX5_makes_61 rfl ?_
    refine ev_bipush hX dX5_makes_62 (v := 25) (by decide +kernel) ?_
    refine ev_iadd hX dX5_makes_64 ?_
    refine ev_iconst hX dX5_makes_65 (v := 5) (by decide +kernel) ?_
    refine ev_iload_n hX dX5_makes_66 rfl ?_
    refine ev_imul hX dX5_makes_67 ?_
    refine ev_iadd hX dX5_makes_68 ?_
    refine ev_iload_n hX dX5_makes_69 rfl ?_
    refine ev_callSi hX (As := [.inl a2]) (rm := rm_X5_kindOf) (c_X5_kindOf l D cI cC td a2 (mv_up (mv_up z2.2 1 j3 (1 - (w 1 j1))) 1 j5 (((mv_up z2.2 1 j3 (1 - (w 1 j1))) 1 j4) + 1))) (cwS 1 hX.ts gX5_makes_X5_kindOf rfl rfl rfl (by decide +kernel) ⟨Nat.le_of_ble_eq_true rfl, Nat.le_of_ble_eq_true rfl⟩) rfl rfl rfl ⟨Nat.le_of_ble_eq_true rfl, Nat.le_of_ble_eq_true rfl⟩ dX5_makes_70 rfl (fun z7 hz7 => ?_)
    refine ev_iadd hX dX5_makes_73 ?_
    refine ev_iconst hX dX5_makes_74 (v := 1) (by decide +kernel) ?_
    refine ev_isub hX dX5_makes_75 ?_
    refine ev_dup2 hX dX5_makes_76 ?_
    refine ev_iald hX rfl dX5_makes_77 (fun j8 => ?_)
    refine ev_iconst hX dX5_makes_78 (v := 1) (by decide +kernel) ?_
    refine ev_isub hX dX5_makes_79 ?_
    refine ev_iast hX rfl dX5_makes_80 (fun j9 => ?_)
    refine ev_aload_n hX dX5_makes_81 rfl ?_
    refine ev_getr (k := 0) hX (T := TX5) in_X5_makes_X5 rfl rfl rfl (show Cond.fieldLink RX5 7 "FiveShogiModel" "s" "[I" ∈ _ by decide +kernel) rfl dX5_makes_82 ?_
    refine ev_iload_n hX dX5_makes_85 rfl ?_
    refine ev_iload hX dX5_makes_86 rfl ?_
    refine ev_iadd hX dX5_makes_88 ?_
    refine ev_bipush hX dX5_makes_89 (v := 10) (by decide +kernel) ?_
    refine ev_iload_n hX dX5_makes_91 rfl ?_
    refine ev_imul hX dX5_makes_92 ?_
    refine ev_iload_n hX dX5_makes_93 rfl ?_
    refine ev_callSi hX (As := [.inl a2]) (rm := rm_X5_kindOf) (c_X5_kindOf l D cI cC td a2 (mv_up z7.2 1 j9 ((z7.2 1 j8) - 1))) (cwS 1 hX.ts gX5_makes_X5_kindOf rfl rfl rfl (by decide +kernel) ⟨Nat.le_of_ble_eq_true rfl, Nat.le_of_ble_eq_true rfl⟩) rfl rfl rfl ⟨Nat.le_of_ble_eq_true rfl, Nat.le_of_ble_eq_true rfl⟩ dX5_makes_94 rfl (fun z10 hz10 => ?_)
    refine ev_iadd hX dX5_makes_97 ?_
    refine ev_iconst hX dX5_makes_98 (v := 1) (by decide +kernel) ?_
    refine ev_iadd hX dX5_makes_99 ?_
    refine ev_iast hX rfl dX5_makes_100 (fun j11 => ?_)
    refine ev_aload_n hX dX5_makes_101 rfl ?_
    refine ev_getr (k := 0) hX (T := TX5) in_X5_makes_X5 rfl rfl rfl (show Cond.fieldLink RX5 7 "FiveShogiModel" "s" "[I" ∈ _ by decide +kernel) rfl dX5_makes_102 ?_
    refine ev_iload_n hX dX5_makes_105 rfl ?_
    refine ev_bipush hX dX5_makes_106 (v := 39) (by decide +kernel) ?_
    refine ev_iadd hX dX5_makes_108 ?_
    refine ev_dup2 hX dX5_makes_109 ?_
    refine ev_iald hX rfl dX5_makes_110 (fun j12 => ?_)
    refine ev_iconst hX dX5_makes_111 (v := 1) (by decide +kernel) ?_
    refine ev_iadd hX dX5_makes_112 ?_
    refine ev_iast hX rfl dX5_makes_113 (fun j13 => ?_)
    refine ev_iload hX dX5_makes_114 rfl ?_
    exact ev_ireti hX hr dX5_makes_116
def rm_X5_tries : Room := { frames := 2, cells := 0, slots := 0, locals := 49 }
set_option maxRecDepth 20000 in
theorem in_X5_tries_X5 : ∀ w ∈ u_ws RX5 TX5 8, w ∈ wsX5_tries := by decide +kernel
set_option maxHeartbeats 4000000 in
set_option maxRecDepth 100000 in
theorem e_X5_tries_2 (hX : mv_X p s m args meth c D vwCl cI cC tbX td A cX5_tries 4 RX5 wsX5_tries) (hr : meth.sig.returnType = none) : ∀ (n : Nat) (x1 : Int32) (x2 : Int32) (x3 : Int32) (w : mvW), EV p l e (headSpec wsX5_tries rm_X5_tries).room s m args below meth c D vwCl cI cC td A (fun a => a = ad0) (mv_Qv below args s D vwCl cI cC shM ad0 A) 0 0 shM [some (.inr (.inl 0)), some (.inl x1), some (.inl x2), some (.inl x3)] [] 2 w (f_X5_tries_2 n x1 x2 x3 w) := by
  intro n
  induction n with
  | zero => intro x1 x2 x3 w; exact ev_none
  | succ n ih =>
    intro x1 x2 x3 w
    rw [f_X5_tries_2]
    refine ev_iload_n hX dX5_tries_2 rfl ?_
    refine ev_bipush hX dX5_tries_3 (v := 40) (by decide +kernel) ?_
    refine ev_icmp_ge (tgt := 33) hX dX5_tries_5 (by decide) ?_ ?_
    · refine ev_aload_n hX dX5_tries_33 rfl ?_
      refine ev_iload_n hX dX5_tries_34 rfl ?_
      refine ev_bipush hX dX5_tries_35 (v := 40) (by decide +kernel) ?_
      refine ev_iadd hX dX5_tries_37 ?_
      refine ev_iload_n hX dX5_tries_38 rfl ?_
      refine ev_callVi hX (k0 := 0) (As := [.inl (x1 + 40), .inl x2]) (rm := rm_X5_makes) (c_X5_makes l D cI cC td (x1 + 40) x2 w) (cwV 2 hX.ts gX5_tries_X5_makes rfl rfl rfl (by decide +kernel) ⟨Nat.le_of_ble_eq_true rfl, Nat.le_of_ble_eq_true rfl⟩) rfl rfl rfl rfl rfl rfl ⟨Nat.le_of_ble_eq_true rfl, Nat.le_of_ble_eq_true rfl⟩ dX5_tries_39 rfl (fun z1 hz1 => ?_)
      refine ev_istore_n hX dX5_tries_42 rfl (L' := [some (.inr (.inl 0)), some (.inl x1), some (.inl x2), some (.inl z1.1)]) rfl ?_
      exact ev_vret hX hr dX5_tries_43
    · refine ev_aload_n hX dX5_tries_8 rfl ?_
      refine ev_getr (k := 0) hX (T := TX5) in_X5_tries_X5 rfl rfl rfl (show Cond.fieldLink RX5 7 "FiveShogiModel" "s" "[I" ∈ _ by decide +kernel) rfl dX5_tries_9 ?_
      refine ev_iload_n hX dX5_tries_12 rfl ?_
      refine ev_bipush hX dX5_tries_13 (v := 40) (by decide +kernel) ?_
      refine ev_iadd hX dX5_tries_15 ?_
      refine ev_iload_n hX dX5_tries_16 rfl ?_
      refine ev_iadd hX dX5_tries_17 ?_
      refine ev_aload_n hX dX5_tries_18 rfl ?_
      refine ev_getr (k := 0) hX (T := TX5) in_X5_tries_X5 rfl rfl rfl (show Cond.fieldLink RX5 7 "FiveShogiModel" "s" "[I" ∈ _ by decide +kernel) rfl dX5_tries_19 ?_
      refine ev_iload_n hX dX5_tries_22 rfl ?_
      refine ev_iload_n hX dX5_tries_23 rfl ?_
      refine ev_iadd hX dX5_tries_24 ?_
      refine ev_iald hX rfl dX5_tries_25 (fun j2 => ?_)
      refine ev_iast hX rfl dX5_tries_26 (fun j3 => ?_)
      refine ev_iinc hX dX5_tries_27 rfl (v := 1) (by decide +kernel) (L' := [some (.inr (.inl 0)), some (.inl x1), some (.inl x2), some (.inl (x3 + 1))]) rfl ?_
      refine ev_goto (tgt := 2) hX dX5_tries_30 (by decide) ?_
      refine ev_mask [true, true, true, true] (L' := [some (.inr (.inl 0)), some (.inl x1), some (.inl x2), some (.inl (x3 + 1))]) rfl rfl ?_
      exact ih x1 x2 (x3 + 1) (mv_up w 1 j3 (w 1 j2))
set_option maxHeartbeats 4000000 in
set_option maxRecDepth 100000 in
theorem c_X5_tries (l : Launch) (D : va_G) (cI cC : ClassId) (td : Nat → Option Nat) (a1 : Int32) (a2 : Int32) (w : mvW) : ∀ z, f_X5_tries a1 a2 w = some z → mv_Cv l D vwCl cI cC tbX td yX5_tries wsX5_tries rm_X5_tries shM w [.inr (.inl 0), .inl a1, .inl a2] z := by
  refine mv_startv (own := RX5) rfl (by decide) rfl rfl (L0 := [some (.inr (.inl 0)), some (.inl a1), some (.inl a2), none]) rfl (fun p e s m args below meth c A ad0 hX hr => ?_)
  rw [f_X5_tries]
  refine ev_iconst hX dX5_tries_0 (v := 0) (by decide +kernel) ?_
  refine ev_istore_n hX dX5_tries_1 rfl (L' := [some (.inr (.inl 0)), some (.inl a1), some (.inl a2), some (.inl 0)]) rfl ?_
  refine ev_mask [true, true, true, true] (L' := [some (.inr (.inl 0)), some (.inl a1), some (.inl a2), some (.inl 0)]) rfl rfl ?_
  exact e_X5_tries_2 hX hr 4096 a1 a2 0 w
def rm_X5_attackersOf : Room := { frames := 3, cells := 0, slots := 0, locals := 79 }
set_option maxHeartbeats 4000000 in
set_option maxRecDepth 100000 in
theorem e_X5_attackersOf_6 (hX : mv_X p s m args meth c D vwCl cI cC tbX td A cX5_attackersOf 6 RX5 wsX5_attackersOf) (hr : meth.sig.returnType = (some .int)) : ∀ (n : Nat) (x1 : Int32) (x2 : Int32) (x3 : Int32) (x4 : Int32) (x5 : Int32) (w : mvW), EV p l e (headSpec wsX5_attackersOf rm_X5_attackersOf).room s m args below meth c D vwCl cI cC td A (fun a => a = ad0) (mv_Qi below args s D vwCl cI cC shM ad0 A) 0 0 shM [some (.inr (.inl 0)), some (.inl x1), some (.inl x2), some (.inl x3), some (.inl x4), some (.inl x5)] [] 6 w (f_X5_attackersOf_6 n x1 x2 x3 x4 x5 w) := by
  intro n
  induction n with
  | zero => intro x1 x2 x3 x4 x5 w; exact ev_none
  | succ n ih =>
    intro x1 x2 x3 x4 x5 w
    rw [f_X5_attackersOf_6]
    refine ev_iload hX dX5_attackersOf_6 rfl ?_
    refine ev_bipush hX dX5_attackersOf_8 (v := 25) (by decide +kernel) ?_
    refine ev_icmp_ge (tgt := 55) hX dX5_attackersOf_10 (by decide) ?_ ?_
    · refine ev_iload hX dX5_attackersOf_55 rfl ?_
      exact ev_ireti hX hr dX5_attackersOf_57
    · refine ev_iload hX dX5_attackersOf_13 rfl ?_
      refine ev_aload_n hX dX5_attackersOf_15 rfl ?_
      refine ev_iload_n hX dX5_attackersOf_16 rfl ?_
      refine ev_iload hX dX5_attackersOf_17 rfl ?_
      refine ev_callVi hX (k0 := 0) (As := [.inl x1, .inl x5]) (rm := rm_X5_sideOn) (c_X5_sideOn l D cI cC td x1 x5 w) (cwV 2 hX.ts gX5_attackersOf_X5_sideOn rfl rfl rfl (by decide +kernel) ⟨Nat.le_of_ble_eq_true rfl, Nat.le_of_ble_eq_true rfl⟩) rfl rfl rfl rfl rfl rfl ⟨Nat.le_of_ble_eq_true rfl, Nat.le_of_ble_eq_true rfl⟩ dX5_attackersOf_19 rfl (fun z1 hz1 => ?_)
      refine ev_iload_n hX dX5_attackersOf_22 rfl ?_
      refine ev_icmp_ne (tgt := 45) hX dX5_attackersOf_23 (by decide) ?_ ?_
      · refine ev_iconst hX dX5_attackersOf_45 (v := 0) (by decide +kernel) ?_
        refine ev_iadd hX dX5_attackersOf_46 ?_
        refine ev_istore hX dX5_attackersOf_47 rfl (L' := [some (.inr (.inl 0)), some (.inl x1), some (.inl x2), some (.inl x3), some (.inl (x4 + 0)), some (.inl x5)]) rfl ?_
        refine ev_iinc hX dX5_attackersOf_49 rfl (v := 1) (by decide +kernel) (L' := [some (.inr (.inl 0)), some (.inl x1), some (.inl x2), some (.inl x3), some (.inl (x4 + 0)), some (.inl (x5 + 1))]) rfl ?_
        refine ev_goto (tgt := 6) hX dX5_attackersOf_52 (by decide) ?_
        refine ev_mask [true, true, true, true, true, true] (L' := [some (.inr (.inl 0)), some (.inl x1), some (.inl x2), some (.inl x3), some (.inl (x4 + 0)), some (.inl (x5 + 1))]) rfl rfl ?_
        exact ih x1 x2 x3 (x4 + 0) (x5 + 1) z1.2
      · refine ev_aload_n hX dX5_attackersOf_26 rfl ?_
        refine ev_iload_n hX dX5_attackersOf_27 rfl ?_
        refine ev_iload hX dX5_attackersOf_28 rfl ?_
        refine ev_callVi hX (k0 := 0) (As := [.inl x1, .inl x5]) (rm := rm_X5_attacksOf) (c_X5_attacksOf l D cI cC td x1 x5 z1.2) (cwV 2 hX.ts gX5_attackersOf_X5_attacksOf rfl rfl rfl (by decide +kernel) ⟨Nat.le_of_ble_eq_true rfl, Nat.le_of_ble_eq_true rfl⟩) rfl rfl rfl rfl rfl rfl ⟨Nat.le_of_ble_eq_true rfl, Nat.le_of_ble_eq_true rfl⟩ dX5_attackersOf_30 rfl (fun z2 hz2 => ?_)
        refine ev_iload_n hX dX5_attackersOf_33 rfl ?_
        refine ev_ishr hX dX5_attackersOf_34 ?_
        refine ev_iconst hX dX5_attackersOf_35 (v := 1) (by decide +kernel) ?_
        refine ev_iand hX dX5_attackersOf_36 ?_
        refine ev_iconst hX dX5_attackersOf_37 (v := 1) (by decide +kernel) ?_
        refine ev_icmp_ne (tgt := 45) hX dX5_attackersOf_38 (by decide) ?_ ?_
        · refine ev_iconst hX dX5_attackersOf_45 (v := 0) (by decide +kernel) ?_
          refine ev_iadd hX dX5_attackersOf_46 ?_
          refine ev_istore hX dX5_attackersOf_47 rfl (L' := [some (.inr (.inl 0)), some (.inl x1), some (.inl x2), some (.inl x3), some (.inl (x4 + 0)), some (.inl x5)]) rfl ?_
          refine ev_iinc hX dX5_attackersOf_49 rfl (v := 1) (by decide +kernel) (L' := [some (.inr (.inl 0)), some (.inl x1), some (.inl x2), some (.inl x3), some (.inl (x4 + 0)), some (.inl (x5 + 1))]) rfl ?_
          refine ev_goto (tgt := 6) hX dX5_attackersOf_52 (by decide) ?_
          refine ev_mask [true, true, true, true, true, true] (L' := [some (.inr (.inl 0)), some (.inl x1), some (.inl x2), some (.inl x3), some (.inl (x4 + 0)), some (.inl (x5 + 1))]) rfl rfl ?_
          exact ih x1 x2 x3 (x4 + 0) (x5 + 1) z2.2
        · refine ev_iconst hX dX5_attackersOf_41 (v := 1) (by decide +kernel) ?_
          refine ev_goto (tgt := 46) hX dX5_attackersOf_42 (by decide) ?_
          refine ev_iadd hX dX5_attackersOf_46 ?_
          refine ev_istore hX dX5_attackersOf_47 rfl (L' := [some (.inr (.inl 0)), some (.inl x1), some (.inl x2), some (.inl x3), some (.inl (x4 + 1)), some (.inl x5)]) rfl ?_
          refine ev_iinc hX dX5_attackersOf_49 rfl (v := 1) (by decide +kernel) (L' := [some (.inr (.inl 0)), some (.inl x1), some (.inl x2), some (.inl x3), some (.inl (x4 + 1)), some (.inl (x5 + 1))]) rfl ?_
          refine ev_goto (tgt := 6) hX dX5_attackersOf_52 (by decide) ?_
          refine ev_mask [true, true, true, true, true, true] (L' := [some (.inr (.inl 0)), some (.inl x1), some (.inl x2), some (.inl x3), some (.inl (x4 + 1)), some (.inl (x5 + 1))]) rfl rfl ?_
          exact ih x1 x2 x3 (x4 + 1) (x5 + 1) z2.2
set_option maxHeartbeats 4000000 in
set_option maxRecDepth 100000 in
theorem c_X5_attackersOf (l : Launch) (D : va_G) (cI cC : ClassId) (td : Nat → Option Nat) (a1 : Int32) (a2 : Int32) (a3 : Int32) (w : mvW) : ∀ z, f_X5_attackersOf a1 a2 a3 w = some z → mv_Ci l D vwCl cI cC tbX td yX5_attackersOf wsX5_attackersOf rm_X5_attackersOf shM w [.inr (.inl 0), .inl a1, .inl a2, .inl a3] z := by
  refine mv_starti (own := RX5) rfl (by decide) rfl rfl (L0 := [some (.inr (.inl 0)), some (.inl a1), some (.inl a2), some (.inl a3), none, none]) rfl (fun p e s m args below meth c A ad0 hX hr => ?_)
  rw [f_X5_attackersOf]
  refine ev_iconst hX dX5_attackersOf_0 (v := 0) (by decide +kernel) ?_
  refine ev_istore hX dX5_attackersOf_1 rfl (L' := [some (.inr (.inl 0)), some (.inl a1), some (.inl a2), some (.inl a3), some (.inl 0), none]) rfl ?_
  refine ev_iconst hX dX5_attackersOf_3 (v := 0) (by decide +kernel) ?_
  refine ev_istore hX dX5_attackersOf_4 rfl (L' := [some (.inr (.inl 0)), some (.inl a1), some (.inl a2), some (.inl a3), some (.inl 0), some (.inl 0)]) rfl ?_
  refine ev_mask [true, true, true, true, true, true] (L' := [some (.inr (.inl 0)), some (.inl a1), some (.inl a2), some (.inl a3), some (.inl 0), some (.inl 0)]) rfl rfl ?_
  exact e_X5_attackersOf_6 hX hr 4096 a1 a2 a3 0 0 w
def rm_X5_isInCheck : Room := { frames := 4, cells := 0, slots := 0, locals := 104 }
set_option maxRecDepth 20000 in
theorem in_X5_isInCheck_X5 : ∀ w ∈ u_ws RX5 TX5 8, w ∈ wsX5_isInCheck := by decide +kernel
set_option maxHeartbeats 4000000 in
set_option maxRecDepth 100000 in
theorem e_X5_isInCheck_2 (hX : mv_X p s m args meth c D vwCl cI cC tbX td A cX5_isInCheck 4 RX5 wsX5_isInCheck) (hr : meth.sig.returnType = (some .boolean)) : ∀ (n : Nat) (x1 : Int32) (x2 : Int32) (x3 : Int32) (w : mvW), EV p l e (headSpec wsX5_isInCheck rm_X5_isInCheck).room s m args below meth c D vwCl cI cC td A (fun a => a = ad0) (mv_Qi below args s D vwCl cI cC shM ad0 A) 0 0 shM [some (.inr (.inl 0)), some (.inl x1), some (.inl x2), some (.inl x3)] [] 2 w (f_X5_isInCheck_2 n x1 x2 x3 w) := by
  intro n
  induction n with
  | zero => intro x1 x2 x3 w; exact ev_none
  | succ n ih =>
    intro x1 x2 x3 w
    rw [f_X5_isInCheck_2]
    refine ev_iload_n hX dX5_isInCheck_2 rfl ?_
    refine ev_bipush hX dX5_isInCheck_3 (v := 25) (by decide +kernel) ?_
    refine ev_icmp_ge (tgt := 51) hX dX5_isInCheck_5 (by decide) ?_ ?_
    · refine ev_iconst hX dX5_isInCheck_51 (v := 0) (by decide +kernel) ?_
      exact ev_iretz0 hX hr dX5_isInCheck_52
    · refine ev_aload_n hX dX5_isInCheck_8 rfl ?_
      refine ev_getr (k := 0) hX (T := TX5) in_X5_isInCheck_X5 rfl rfl rfl (show Cond.fieldLink RX5 7 "FiveShogiModel" "s" "[I" ∈ _ by decide +kernel) rfl dX5_isInCheck_9 ?_
      refine ev_iload_n hX dX5_isInCheck_12 rfl ?_
      refine ev_iload_n hX dX5_isInCheck_13 rfl ?_
      refine ev_iadd hX dX5_isInCheck_14 ?_
      refine ev_iald hX rfl dX5_isInCheck_15 (fun j1 => ?_)
      refine ev_bipush hX dX5_isInCheck_16 (v := 10) (by decide +kernel) ?_
      refine ev_iload_n hX dX5_isInCheck_18 rfl ?_
      refine ev_imul hX dX5_isInCheck_19 ?_
      refine ev_iconst hX dX5_isInCheck_20 (v := 0) (by decide +kernel) ?_
      refine ev_iadd hX dX5_isInCheck_21 ?_
      refine ev_iconst hX dX5_isInCheck_22 (v := 1) (by decide +kernel) ?_
      refine ev_iadd hX dX5_isInCheck_23 ?_
      refine ev_icmp_ne (tgt := 45) hX dX5_isInCheck_24 (by decide) ?_ ?_
      · refine ev_iinc hX dX5_isInCheck_45 rfl (v := 1) (by decide +kernel) (L' := [some (.inr (.inl 0)), some (.inl x1), some (.inl x2), some (.inl (x3 + 1))]) rfl ?_
        refine ev_goto (tgt := 2) hX dX5_isInCheck_48 (by decide) ?_
        refine ev_mask [true, true, true, true] (L' := [some (.inr (.inl 0)), some (.inl x1), some (.inl x2), some (.inl (x3 + 1))]) rfl rfl ?_
        exact ih x1 x2 (x3 + 1) w
      · refine ev_aload_n hX dX5_isInCheck_27 rfl ?_
        refine ev_iload_n hX dX5_isInCheck_28 rfl ?_
        refine ev_iconst hX dX5_isInCheck_29 (v := 1) (by decide +kernel) ?_
        refine ev_iload_n hX dX5_isInCheck_30 rfl ?_
        refine ev_isub hX dX5_isInCheck_31 ?_
        refine ev_iload_n hX dX5_isInCheck_32 rfl ?_
        refine ev_callVi hX (k0 := 0) (As := [.inl x1, .inl (1 - x2), .inl x3]) (rm := rm_X5_attackersOf) (c_X5_attackersOf l D cI cC td x1 (1 - x2) x3 w) (cwV 3 hX.ts gX5_isInCheck_X5_attackersOf rfl rfl rfl (by decide +kernel) ⟨Nat.le_of_ble_eq_true rfl, Nat.le_of_ble_eq_true rfl⟩) rfl rfl rfl rfl rfl rfl ⟨Nat.le_of_ble_eq_true rfl, Nat.le_of_ble_eq_true rfl⟩ dX5_isInCheck_33 rfl (fun z2 hz2 => ?_)
        refine ev_if_le (tgt := 43) hX dX5_isInCheck_36 (by decide) ?_ ?_
        · refine ev_iconst hX dX5_isInCheck_43 (v := 0) (by decide +kernel) ?_
          exact ev_iretz0 hX hr dX5_isInCheck_44
        · refine ev_iconst hX dX5_isInCheck_39 (v := 1) (by decide +kernel) ?_
          refine ev_goto (tgt := 44) hX dX5_isInCheck_40 (by decide) ?_
          exact ev_iretz1 hX hr dX5_isInCheck_44
set_option maxHeartbeats 4000000 in
set_option maxRecDepth 100000 in
theorem c_X5_isInCheck (l : Launch) (D : va_G) (cI cC : ClassId) (td : Nat → Option Nat) (a1 : Int32) (a2 : Int32) (w : mvW) : ∀ z, f_X5_isInCheck a1 a2 w = some z → mv_Ci l D vwCl cI cC tbX td yX5_isInCheck wsX5_isInCheck rm_X5_isInCheck shM w [.inr (.inl 0), .inl a1, .inl a2] z := by
  refine mv_starti (own := RX5) rfl (by decide) rfl rfl (L0 := [some (.inr (.inl 0)), some (.inl a1), some (.inl a2), none]) rfl (fun p e s m args below meth c A ad0 hX hr => ?_)
  rw [f_X5_isInCheck]
  refine ev_iconst hX dX5_isInCheck_0 (v := 0) (by decide +kernel) ?_
  refine ev_istore_n hX dX5_isInCheck_1 rfl (L' := [some (.inr (.inl 0)), some (.inl a1), some (.inl a2), some (.inl 0)]) rfl ?_
  refine ev_mask [true, true, true, true] (L' := [some (.inr (.inl 0)), some (.inl a1), some (.inl a2), some (.inl 0)]) rfl rfl ?_
  exact e_X5_isInCheck_2 hX hr 4096 a1 a2 0 w
end
