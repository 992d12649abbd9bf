section
variable {p : Program} {l : Launch} {e : Env} {s : State} {m : MethodId} {args : Array Value} {below : List Frame} {meth : Method} {c : Code} {D : va_G} {cI cC : ClassId} {td : Nat → Option Nat} {A : Nat → Prop} {ad0 : Nat → Nat}
def rm_X4_has : Room := { frames := 0, cells := 0, slots := 0, locals := 0 }
set_option maxHeartbeats 4000000 in
set_option maxRecDepth 100000 in
theorem c_X4_has (l : Launch) (D : va_G) (cI cC : ClassId) (td : Nat → Option Nat) (a0 : Int32) (a1 : Int32) (w : mvW) : ∀ z, f_X4_has a0 a1 w = some z → mv_Ci l D vwCl cI cC tbX td yX4_has wsX4_has rm_X4_has shX w [.inl a0, .inl a1] z := by
  refine mv_starti (own := RX4) rfl (by decide) rfl rfl (L0 := [some (.inl a0), some (.inl a1)]) rfl (fun p e s m args below meth c A ad0 hX hr => ?_)
  rw [f_X4_has]
  refine ev_iload_n hX dX4_has_0 rfl ?_
  refine ev_iload_n hX dX4_has_1 rfl ?_
  refine ev_ishr hX dX4_has_2 ?_
  refine ev_iconst hX dX4_has_3 (v := 1) (by decide +kernel) ?_
  refine ev_iand hX dX4_has_4 ?_
  refine ev_if_eq (tgt := 12) hX dX4_has_5 (by decide) ?_ ?_
  · refine ev_iconst hX dX4_has_12 (v := 0) (by decide +kernel) ?_
    exact ev_iretz0 hX hr dX4_has_13
  · refine ev_iconst hX dX4_has_8 (v := 1) (by decide +kernel) ?_
    refine ev_goto (tgt := 13) hX dX4_has_9 (by decide) ?_
    exact ev_iretz1 hX hr dX4_has_13
def rm_X4_dropNumber : Room := { frames := 0, cells := 0, slots := 0, locals := 0 }
set_option maxHeartbeats 4000000 in
set_option maxRecDepth 100000 in
theorem c_X4_dropNumber (l : Launch) (D : va_G) (cI cC : ClassId) (td : Nat → Option Nat) (a0 : Int32) (a1 : Int32) (w : mvW) : ∀ z, f_X4_dropNumber a0 a1 w = some z → mv_Ci l D vwCl cI cC tbX td yX4_dropNumber wsX4_dropNumber rm_X4_dropNumber shX w [.inl a0, .inl a1] z := by
  refine mv_starti (own := RX4) rfl (by decide) rfl rfl (L0 := [some (.inl a0), some (.inl a1)]) rfl (fun p e s m args below meth c A ad0 hX hr => ?_)
  rw [f_X4_dropNumber]
  refine ev_sipush hX dX4_dropNumber_0 (v := 20000) (by decide +kernel) ?_
  refine ev_bipush hX dX4_dropNumber_3 (v := 100) (by decide +kernel) ?_
  refine ev_iload_n hX dX4_dropNumber_5 rfl ?_
  refine ev_imul hX dX4_dropNumber_6 ?_
  refine ev_iadd hX dX4_dropNumber_7 ?_
  refine ev_iload_n hX dX4_dropNumber_8 rfl ?_
  refine ev_iadd hX dX4_dropNumber_9 ?_
  exact ev_ireti hX hr dX4_dropNumber_10
def rm_X2_setSideToPlay : Room := { frames := 0, cells := 0, slots := 0, locals := 0 }
set_option maxRecDepth 20000 in
theorem in_X2_setSideToPlay_X2 : ∀ w ∈ u_ws RX2 TX2 2, w ∈ wsX2_setSideToPlay := by decide +kernel
set_option maxHeartbeats 4000000 in
set_option maxRecDepth 100000 in
theorem c_X2_setSideToPlay (l : Launch) (D : va_G) (cI cC : ClassId) (td : Nat → Option Nat) (a1 : Int32) (w : mvW) : ∀ z, f_X2_setSideToPlay a1 w = some z → mv_Cv l D vwCl cI cC tbX td yX2_setSideToPlay wsX2_setSideToPlay rm_X2_setSideToPlay shX w [.inr (.inl 1), .inl a1] z := by
  refine mv_startv (own := RX2) rfl (by decide) rfl rfl (L0 := [some (.inr (.inl 1)), some (.inl a1)]) rfl (fun p e s m args below meth c A ad0 hX hr => ?_)
  rw [f_X2_setSideToPlay]
  refine ev_aload_n hX dX2_setSideToPlay_0 rfl ?_
  refine ev_getr (k := 0) hX (T := TX2) in_X2_setSideToPlay_X2 rfl rfl rfl (show Cond.fieldLink RX2 11 "FiveShogi$Position" "state" "[I" ∈ _ by decide +kernel) rfl dX2_setSideToPlay_1 ?_
  refine ev_bipush hX dX2_setSideToPlay_4 (v := 39) (by decide +kernel) ?_
  refine ev_iload_n hX dX2_setSideToPlay_6 rfl ?_
  refine ev_iastc (j := 39) hX rfl (by decide +kernel) dX2_setSideToPlay_7 ?_
  exact ev_vret hX hr dX2_setSideToPlay_8
def rm_X2_setInHand : Room := { frames := 1, cells := 0, slots := 0, locals := 20 }
set_option maxRecDepth 20000 in
theorem in_X2_setInHand_X2 : ∀ w ∈ u_ws RX2 TX2 2, w ∈ wsX2_setInHand := by decide +kernel
set_option maxHeartbeats 4000000 in
set_option maxRecDepth 100000 in
theorem c_X2_setInHand (l : Launch) (D : va_G) (cI cC : ClassId) (td : Nat → Option Nat) (a1 : Int32) (a2 : Int32) (a3 : Int32) (w : mvW) : ∀ z, f_X2_setInHand a1 a2 a3 w = some z → mv_Cv l D vwCl cI cC tbX td yX2_setInHand wsX2_setInHand rm_X2_setInHand shX w [.inr (.inl 1), .inl a1, .inl a2, .inl a3] z := by
  refine mv_startv (own := RX2) rfl (by decide) rfl rfl (L0 := [some (.inr (.inl 1)), some (.inl a1), some (.inl a2), some (.inl a3)]) rfl (fun p e s m args below meth c A ad0 hX hr => ?_)
  rw [f_X2_setInHand]
  refine ev_iload_n hX dX2_setInHand_0 rfl ?_
  refine ev_callNi hX (As := [.inl a1]) (rm := rm_X4_isSide) (c_X4_isSide l D cI cC td a1 w) ⟨va_cnB (host := "FiveShogi") 1 hX.ts gX2_setInHand_X4_isSide_n38 rfl rfl rfl (hX.sta.2.1 (_, 38, _, _) (List.mem_of_getElem? (i := 9) rfl)) (hX.ts _ (show Cond.initialized RX4 ∈ _ by decide +kernel)) (by decide +kernel) ⟨Nat.le_of_ble_eq_true rfl, Nat.le_of_ble_eq_true rfl⟩, hX.ts _ (show Cond.static yX4_isSide ∈ _ by decide +kernel), trivial⟩ rfl rfl rfl ⟨Nat.le_of_ble_eq_true rfl, Nat.le_of_ble_eq_true rfl⟩ dX2_setInHand_1 rfl (fun z1 hz1 => ?_)
  refine ev_if_eq (tgt := 29) hX dX2_setInHand_4 (by decide) ?_ ?_
  · exact ev_vret hX hr dX2_setInHand_29
  · refine ev_iload_n hX dX2_setInHand_7 rfl ?_
    refine ev_callNi hX (As := [.inl a2]) (rm := rm_X4_isHandKind) (c_X4_isHandKind l D cI cC td a2 z1.2) ⟨va_cnB (host := "FiveShogi") 1 hX.ts gX2_setInHand_X4_isHandKind_n55 rfl rfl rfl (hX.sta.2.1 (_, 55, _, _) (List.mem_of_getElem? (i := 10) rfl)) (hX.ts _ (show Cond.initialized RX4 ∈ _ by decide +kernel)) (by decide +kernel) ⟨Nat.le_of_ble_eq_true rfl, Nat.le_of_ble_eq_true rfl⟩, hX.ts _ (show Cond.static yX4_isHandKind ∈ _ by decide +kernel), trivial⟩ rfl rfl rfl ⟨Nat.le_of_ble_eq_true rfl, Nat.le_of_ble_eq_true rfl⟩ dX2_setInHand_8 rfl (fun z2 hz2 => ?_)
    refine ev_if_eq (tgt := 29) hX dX2_setInHand_11 (by decide) ?_ ?_
    · exact ev_vret hX hr dX2_setInHand_29
    · refine ev_aload_n hX dX2_setInHand_14 rfl ?_
      refine ev_getr (k := 0) hX (T := TX2) in_X2_setInHand_X2 rfl rfl rfl (show Cond.fieldLink RX2 11 "FiveShogi$Position" "state" "[I" ∈ _ by decide +kernel) rfl dX2_setInHand_15 ?_
      refine ev_bipush hX dX2_setInHand_18 (v := 25) (by decide +kernel) ?_
      refine ev_iload_n hX dX2_setInHand_20 rfl ?_
      refine ev_bipush hX dX2_setInHand_21 (v := 6) (by decide +kernel) ?_
      refine ev_imul hX dX2_setInHand_23 ?_
      refine ev_iadd hX dX2_setInHand_24 ?_
      refine ev_iload_n hX dX2_setInHand_25 rfl ?_
      refine ev_iadd hX dX2_setInHand_26 ?_
      refine ev_iload_n hX dX2_setInHand_27 rfl ?_
      refine ev_iast hX rfl dX2_setInHand_28 (fun j3 => ?_)
      exact ev_vret hX hr dX2_setInHand_29
def rm_X2_changeHandForTaken : Room := { frames := 2, cells := 0, slots := 0, locals := 43 }
set_option maxHeartbeats 4000000 in
set_option maxRecDepth 100000 in
theorem e_X2_changeHandForTaken_28 (hX : mv_X p s m args meth c D vwCl cI cC tbX td A cX2_changeHandForTaken 6 RX2 wsX2_changeHandForTaken) (hr : meth.sig.returnType = none) (x1 : Int32) (x3 : Int32) (s0 : Int32) (w : mvW) : EV p l e (headSpec wsX2_changeHandForTaken rm_X2_changeHandForTaken).room s m args below meth c D vwCl cI cC td A (fun a => a = ad0) (mv_Qv below args s D vwCl cI cC shX ad0 A) 0 0 shX [some (.inr (.inl 1)), some (.inl x1), none, some (.inl x3), none, none] [.inl s0] 28 w (f_X2_changeHandForTaken_28 x1 x3 s0 w) := by
  rw [f_X2_changeHandForTaken_28]
  refine ev_istore hX dX2_changeHandForTaken_28 rfl (L' := [some (.inr (.inl 1)), some (.inl x1), none, some (.inl x3), none, some (.inl s0)]) rfl ?_
  refine ev_aload_n hX dX2_changeHandForTaken_30 rfl ?_
  refine ev_iload_n hX dX2_changeHandForTaken_31 rfl ?_
  refine ev_iload hX dX2_changeHandForTaken_32 rfl ?_
  refine ev_aload_n hX dX2_changeHandForTaken_34 rfl ?_
  refine ev_iload_n hX dX2_changeHandForTaken_35 rfl ?_
  refine ev_iload hX dX2_changeHandForTaken_36 rfl ?_
  refine ev_callVi hX (k0 := 1) (As := [.inl x1, .inl s0]) (rm := rm_X2_inHand) (c_X2_inHand l D cI cC td x1 s0 w) (cwV 2 hX.ts gX2_changeHandForTaken_X2_inHand rfl rfl rfl (by decide +kernel) ⟨Nat.le_of_ble_eq_true rfl, Nat.le_of_ble_eq_true rfl⟩) rfl rfl rfl rfl rfl rfl ⟨Nat.le_of_ble_eq_true rfl, Nat.le_of_ble_eq_true rfl⟩ dX2_changeHandForTaken_38 rfl (fun z2 hz2 => ?_)
  refine ev_iload_n hX dX2_changeHandForTaken_41 rfl ?_
  refine ev_iadd hX dX2_changeHandForTaken_42 ?_
  refine ev_callVv hX (k0 := 1) (As := [.inl x1, .inl s0, .inl (z2.1 + x3)]) (rm := rm_X2_setInHand) (c_X2_setInHand l D cI cC td x1 s0 (z2.1 + x3) z2.2) (cwV 3 hX.ts gX2_changeHandForTaken_X2_setInHand rfl rfl rfl (by decide +kernel) ⟨Nat.le_of_ble_eq_true rfl, Nat.le_of_ble_eq_true rfl⟩) rfl rfl rfl rfl rfl rfl ⟨Nat.le_of_ble_eq_true rfl, Nat.le_of_ble_eq_true rfl⟩ dX2_changeHandForTaken_43 rfl (fun z3 hz3 => ?_)
  exact ev_vret hX hr dX2_changeHandForTaken_46
set_option maxHeartbeats 4000000 in
set_option maxRecDepth 100000 in
theorem c_X2_changeHandForTaken (l : Launch) (D : va_G) (cI cC : ClassId) (td : Nat → Option Nat) (a1 : Int32) (a2 : Int32) (a3 : Int32) (w : mvW) : ∀ z, f_X2_changeHandForTaken a1 a2 a3 w = some z → mv_Cv l D vwCl cI cC tbX td yX2_changeHandForTaken wsX2_changeHandForTaken rm_X2_changeHandForTaken shX w [.inr (.inl 1), .inl a1, .inl a2, .inl a3] z := by
  refine mv_startv (own := RX2) rfl (by decide) rfl rfl (L0 := [some (.inr (.inl 1)), some (.inl a1), some (.inl a2), some (.inl a3), none, none]) rfl (fun p e s m args below meth c A ad0 hX hr => ?_)
  rw [f_X2_changeHandForTaken]
  refine ev_iload_n hX dX2_changeHandForTaken_0 rfl ?_
  refine ev_bipush hX dX2_changeHandForTaken_1 (v := 99) (by decide +kernel) ?_
  refine ev_icmp_ne (tgt := 7) hX dX2_changeHandForTaken_3 (by decide) ?_ ?_
  · refine ev_iload_n hX dX2_changeHandForTaken_7 rfl ?_
    refine ev_callNi hX (As := [.inl a2]) (rm := rm_X4_kindOf) (c_X4_kindOf l D cI cC td a2 w) ⟨va_cnB (host := "FiveShogi") 1 hX.ts gX2_changeHandForTaken_X4_kindOf_n48 rfl rfl rfl (hX.sta.2.1 (_, 48, _, _) (List.mem_of_getElem? (i := 3) rfl)) (hX.ts _ (show Cond.initialized RX4 ∈ _ by decide +kernel)) (by decide +kernel) ⟨Nat.le_of_ble_eq_true rfl, Nat.le_of_ble_eq_true rfl⟩, hX.ts _ (show Cond.static yX4_kindOf ∈ _ by decide +kernel), trivial⟩ rfl rfl rfl ⟨Nat.le_of_ble_eq_true rfl, Nat.le_of_ble_eq_true rfl⟩ dX2_changeHandForTaken_8 rfl (fun z1 hz1 => ?_)
    refine ev_istore hX dX2_changeHandForTaken_11 rfl (L' := [some (.inr (.inl 1)), some (.inl a1), some (.inl a2), some (.inl a3), some (.inl z1.1), none]) rfl ?_
    refine ev_iload hX dX2_changeHandForTaken_13 rfl ?_
    refine ev_iconst hX dX2_changeHandForTaken_15 (v := 5) (by decide +kernel) ?_
    refine ev_icmp_le (tgt := 26) hX dX2_changeHandForTaken_16 (by decide) ?_ ?_
    · refine ev_iload hX dX2_changeHandForTaken_26 rfl ?_
      refine ev_mask [true, true, false, true, false, false] (L' := [some (.inr (.inl 1)), some (.inl a1), none, some (.inl a3), none, none]) rfl rfl ?_
      exact e_X2_changeHandForTaken_28 hX hr a1 a3 z1.1 z1.2
    · refine ev_iload hX dX2_changeHandForTaken_19 rfl ?_
      refine ev_iconst hX dX2_changeHandForTaken_21 (v := 4) (by decide +kernel) ?_
      refine ev_isub hX dX2_changeHandForTaken_22 ?_
      refine ev_goto (tgt := 28) hX dX2_changeHandForTaken_23 (by decide) ?_
      refine ev_mask [true, true, false, true, false, false] (L' := [some (.inr (.inl 1)), some (.inl a1), none, some (.inl a3), none, none]) rfl rfl ?_
      exact e_X2_changeHandForTaken_28 hX hr a1 a3 (z1.1 - 4) z1.2
  · exact ev_vret hX hr dX2_changeHandForTaken_6
def rm_X2_apply : Room := { frames := 3, cells := 0, slots := 0, locals := 68 }
set_option maxHeartbeats 4000000 in
set_option maxRecDepth 100000 in
theorem c_X2_apply (l : Launch) (D : va_G) (cI cC : ClassId) (td : Nat → Option Nat) (a1 : Int32) (w : mvW) : ∀ z, f_X2_apply a1 w = some z → mv_Ci l D vwCl cI cC tbX td yX2_apply wsX2_apply rm_X2_apply shX w [.inr (.inl 1), .inl a1] z := by
  refine mv_starti (own := RX2) rfl (by decide) rfl rfl (L0 := [some (.inr (.inl 1)), some (.inl a1), none, none, none, none, none]) rfl (fun p e s m args below meth c A ad0 hX hr => ?_)
  rw [f_X2_apply]
  refine ev_aload_n hX dX2_apply_0 rfl ?_
  refine ev_callVi hX (k0 := 1) (As := []) (rm := rm_X2_sideToPlay) (c_X2_sideToPlay l D cI cC td w) (cwV 0 hX.ts gX2_apply_X2_sideToPlay rfl rfl rfl (by decide +kernel) ⟨Nat.le_of_ble_eq_true rfl, Nat.le_of_ble_eq_true rfl⟩) rfl rfl rfl rfl rfl rfl ⟨Nat.le_of_ble_eq_true rfl, Nat.le_of_ble_eq_true rfl⟩ dX2_apply_1 rfl (fun z1 hz1 => ?_)
  refine ev_istore_n hX dX2_apply_4 rfl (L' := [some (.inr (.inl 1)), some (.inl a1), some (.inl z1.1), none, none, none, none]) rfl ?_
  refine ev_iload_n hX dX2_apply_5 rfl ?_
  refine ev_bipush hX dX2_apply_6 (v := 100) (by decide +kernel) ?_
  refine ev_irem hX dX2_apply_8 (by decide) ?_
  refine ev_istore_n hX dX2_apply_9 rfl (L' := [some (.inr (.inl 1)), some (.inl a1), some (.inl z1.1), some (.inl (a1 - a1 / 100 * 100)), none, none, none]) rfl ?_
  refine ev_aload_n hX dX2_apply_10 rfl ?_
  refine ev_iconst hX dX2_apply_11 (v := 1) (by decide +kernel) ?_
  refine ev_iload_n hX dX2_apply_12 rfl ?_
  refine ev_isub hX dX2_apply_13 ?_
  refine ev_callVv hX (k0 := 1) (As := [.inl (1 - z1.1)]) (rm := rm_X2_setSideToPlay) (c_X2_setSideToPlay l D cI cC td (1 - z1.1) z1.2) (cwV 1 hX.ts gX2_apply_X2_setSideToPlay rfl rfl rfl (by decide +kernel) ⟨Nat.le_of_ble_eq_true rfl, Nat.le_of_ble_eq_true rfl⟩) rfl rfl rfl rfl rfl rfl ⟨Nat.le_of_ble_eq_true rfl, Nat.le_of_ble_eq_true rfl⟩ dX2_apply_14 rfl (fun z2 hz2 => ?_)
  refine ev_iload_n hX dX2_apply_17 rfl ?_
  refine ev_sipush hX dX2_apply_18 (v := 20000) (by decide +kernel) ?_
  refine ev_icmp_lt (tgt := 64) hX dX2_apply_21 (by decide) ?_ ?_
  · refine ev_iload_n hX dX2_apply_64 rfl ?_
    refine ev_sipush hX dX2_apply_65 (v := 10000) (by decide +kernel) ?_
    refine ev_irem hX dX2_apply_68 (by decide) ?_
    refine ev_bipush hX dX2_apply_69 (v := 100) (by decide +kernel) ?_
    refine ev_idiv hX dX2_apply_71 (by decide) ?_
    refine ev_istore hX dX2_apply_72 rfl (L' := [some (.inr (.inl 1)), some (.inl a1), some (.inl z1.1), some (.inl (a1 - a1 / 100 * 100)), some (.inl ((a1 - a1 / 10000 * 10000) / 100)), none, none]) rfl ?_
    refine ev_aload_n hX dX2_apply_74 rfl ?_
    refine ev_iload hX dX2_apply_75 rfl ?_
    refine ev_callVi hX (k0 := 1) (As := [.inl ((a1 - a1 / 10000 * 10000) / 100)]) (rm := rm_X2_manOn) (c_X2_manOn l D cI cC td ((a1 - a1 / 10000 * 10000) / 100) z2) (cwV 1 hX.ts gX2_apply_X2_manOn rfl rfl rfl (by decide +kernel) ⟨Nat.le_of_ble_eq_true rfl, Nat.le_of_ble_eq_true rfl⟩) rfl rfl rfl rfl rfl rfl ⟨Nat.le_of_ble_eq_true rfl, Nat.le_of_ble_eq_true rfl⟩ dX2_apply_77 rfl (fun z3 hz3 => ?_)
    refine ev_istore hX dX2_apply_80 rfl (L' := [some (.inr (.inl 1)), some (.inl a1), some (.inl z1.1), some (.inl (a1 - a1 / 100 * 100)), some (.inl ((a1 - a1 / 10000 * 10000) / 100)), some (.inl z3.1), none]) rfl ?_
    refine ev_aload_n hX dX2_apply_82 rfl ?_
    refine ev_iload_n hX dX2_apply_83 rfl ?_
    refine ev_callVi hX (k0 := 1) (As := [.inl (a1 - a1 / 100 * 100)]) (rm := rm_X2_manOn) (c_X2_manOn l D cI cC td (a1 - a1 / 100 * 100) z3.2) (cwV 1 hX.ts gX2_apply_X2_manOn rfl rfl rfl (by decide +kernel) ⟨Nat.le_of_ble_eq_true rfl, Nat.le_of_ble_eq_true rfl⟩) rfl rfl rfl rfl rfl rfl ⟨Nat.le_of_ble_eq_true rfl, Nat.le_of_ble_eq_true rfl⟩ dX2_apply_84 rfl (fun z4 hz4 => ?_)
    refine ev_istore hX dX2_apply_87 rfl (L' := [some (.inr (.inl 1)), some (.inl a1), some (.inl z1.1), some (.inl (a1 - a1 / 100 * 100)), some (.inl ((a1 - a1 / 10000 * 10000) / 100)), some (.inl z3.1), some (.inl z4.1)]) rfl ?_
    refine ev_aload_n hX dX2_apply_89 rfl ?_
    refine ev_iload_n hX dX2_apply_90 rfl ?_
    refine ev_iload hX dX2_apply_91 rfl ?_
    refine ev_iconst hX dX2_apply_93 (v := 1) (by decide +kernel) ?_
    refine ev_callVv hX (k0 := 1) (As := [.inl z1.1, .inl z4.1, .inl 1]) (rm := rm_X2_changeHandForTaken) (c_X2_changeHandForTaken l D cI cC td z1.1 z4.1 1 z4.2) (cwV 3 hX.ts gX2_apply_X2_changeHandForTaken rfl rfl rfl (by decide +kernel) ⟨Nat.le_of_ble_eq_true rfl, Nat.le_of_ble_eq_true rfl⟩) rfl rfl rfl rfl rfl rfl ⟨Nat.le_of_ble_eq_true rfl, Nat.le_of_ble_eq_true rfl⟩ dX2_apply_94 rfl (fun z5 hz5 => ?_)
    refine ev_aload_n hX dX2_apply_97 rfl ?_
    refine ev_iload hX dX2_apply_98 rfl ?_
    refine ev_bipush hX dX2_apply_100 (v := 99) (by decide +kernel) ?_
    refine ev_callVv hX (k0 := 1) (As := [.inl ((a1 - a1 / 10000 * 10000) / 100), .inl 99]) (rm := rm_X2_place) (c_X2_place l D cI cC td ((a1 - a1 / 10000 * 10000) / 100) 99 z5) (cwV 2 hX.ts gX2_apply_X2_place rfl rfl rfl (by decide +kernel) ⟨Nat.le_of_ble_eq_true rfl, Nat.le_of_ble_eq_true rfl⟩) rfl rfl rfl rfl rfl rfl ⟨Nat.le_of_ble_eq_true rfl, Nat.le_of_ble_eq_true rfl⟩ dX2_apply_102 rfl (fun z6 hz6 => ?_)
    refine ev_aload_n hX dX2_apply_105 rfl ?_
    refine ev_iload_n hX dX2_apply_106 rfl ?_
    refine ev_iload_n hX dX2_apply_107 rfl ?_
    refine ev_sipush hX dX2_apply_108 (v := 10000) (by decide +kernel) ?_
    refine ev_icmp_lt (tgt := 121) hX dX2_apply_111 (by decide) ?_ ?_
    · refine ev_iload hX dX2_apply_121 rfl ?_
      refine ev_callVv hX (k0 := 1) (As := [.inl (a1 - a1 / 100 * 100), .inl z3.1]) (rm := rm_X2_place) (c_X2_place l D cI cC td (a1 - a1 / 100 * 100) z3.1 z6) (cwV 2 hX.ts gX2_apply_X2_place rfl rfl rfl (by decide +kernel) ⟨Nat.le_of_ble_eq_true rfl, Nat.le_of_ble_eq_true rfl⟩) rfl rfl rfl rfl rfl rfl ⟨Nat.le_of_ble_eq_true rfl, Nat.le_of_ble_eq_true rfl⟩ dX2_apply_123 rfl (fun z7 hz7 => ?_)
      refine ev_iload hX dX2_apply_126 rfl ?_
      exact ev_ireti hX hr dX2_apply_128
    · refine ev_iload hX dX2_apply_114 rfl ?_
      refine ev_iconst hX dX2_apply_116 (v := 4) (by decide +kernel) ?_
      refine ev_iadd hX dX2_apply_117 ?_
      refine ev_goto (tgt := 123) hX dX2_apply_118 (by decide) ?_
      refine ev_callVv hX (k0 := 1) (As := [.inl (a1 - a1 / 100 * 100), .inl (z3.1 + 4)]) (rm := rm_X2_place) (c_X2_place l D cI cC td (a1 - a1 / 100 * 100) (z3.1 + 4) z6) (cwV 2 hX.ts gX2_apply_X2_place rfl rfl rfl (by decide +kernel) ⟨Nat.le_of_ble_eq_true rfl, Nat.le_of_ble_eq_true rfl⟩) rfl rfl rfl rfl rfl rfl ⟨Nat.le_of_ble_eq_true rfl, Nat.le_of_ble_eq_true rfl⟩ dX2_apply_123 rfl (fun z8 hz8 => ?_)
      refine ev_iload hX dX2_apply_126 rfl ?_
      exact ev_ireti hX hr dX2_apply_128
  · refine ev_iload_n hX dX2_apply_24 rfl ?_
    refine ev_sipush hX dX2_apply_25 (v := 20000) (by decide +kernel) ?_
    refine ev_isub hX dX2_apply_28 ?_
    refine ev_bipush hX dX2_apply_29 (v := 100) (by decide +kernel) ?_
    refine ev_idiv hX dX2_apply_31 (by decide) ?_
    refine ev_istore hX dX2_apply_32 rfl (L' := [some (.inr (.inl 1)), some (.inl a1), some (.inl z1.1), some (.inl (a1 - a1 / 100 * 100)), some (.inl ((a1 - 20000) / 100)), none, none]) rfl ?_
    refine ev_aload_n hX dX2_apply_34 rfl ?_
    refine ev_iload_n hX dX2_apply_35 rfl ?_
    refine ev_iload hX dX2_apply_36 rfl ?_
    refine ev_aload_n hX dX2_apply_38 rfl ?_
    refine ev_iload_n hX dX2_apply_39 rfl ?_
    refine ev_iload hX dX2_apply_40 rfl ?_
    refine ev_callVi hX (k0 := 1) (As := [.inl z1.1, .inl ((a1 - 20000) / 100)]) (rm := rm_X2_inHand) (c_X2_inHand l D cI cC td z1.1 ((a1 - 20000) / 100) z2) (cwV 2 hX.ts gX2_apply_X2_inHand rfl rfl rfl (by decide +kernel) ⟨Nat.le_of_ble_eq_true rfl, Nat.le_of_ble_eq_true rfl⟩) rfl rfl rfl rfl rfl rfl ⟨Nat.le_of_ble_eq_true rfl, Nat.le_of_ble_eq_true rfl⟩ dX2_apply_42 rfl (fun z9 hz9 => ?_)
    refine ev_iconst hX dX2_apply_45 (v := 1) (by decide +kernel) ?_
    refine ev_isub hX dX2_apply_46 ?_
    refine ev_callVv hX (k0 := 1) (As := [.inl z1.1, .inl ((a1 - 20000) / 100), .inl (z9.1 - 1)]) (rm := rm_X2_setInHand) (c_X2_setInHand l D cI cC td z1.1 ((a1 - 20000) / 100) (z9.1 - 1) z9.2) (cwV 3 hX.ts gX2_apply_X2_setInHand rfl rfl rfl (by decide +kernel) ⟨Nat.le_of_ble_eq_true rfl, Nat.le_of_ble_eq_true rfl⟩) rfl rfl rfl rfl rfl rfl ⟨Nat.le_of_ble_eq_true rfl, Nat.le_of_ble_eq_true rfl⟩ dX2_apply_47 rfl (fun z10 hz10 => ?_)
    refine ev_aload_n hX dX2_apply_50 rfl ?_
    refine ev_iload_n hX dX2_apply_51 rfl ?_
    refine ev_iload_n hX dX2_apply_52 rfl ?_
    refine ev_iload hX dX2_apply_53 rfl ?_
    refine ev_callNi hX (As := [.inl z1.1, .inl ((a1 - 20000) / 100)]) (rm := rm_X4_manOf) (c_X4_manOf l D cI cC td z1.1 ((a1 - 20000) / 100) z10) ⟨va_cnB (host := "FiveShogi") 2 hX.ts gX2_apply_X4_manOf_n88 rfl rfl rfl (hX.sta.2.1 (_, 88, _, _) (List.mem_of_getElem? (i := 16) rfl)) (hX.ts _ (show Cond.initialized RX4 ∈ _ by decide +kernel)) (by decide +kernel) ⟨Nat.le_of_ble_eq_true rfl, Nat.le_of_ble_eq_true rfl⟩, hX.ts _ (show Cond.static yX4_manOf ∈ _ by decide +kernel), trivial⟩ rfl rfl rfl ⟨Nat.le_of_ble_eq_true rfl, Nat.le_of_ble_eq_true rfl⟩ dX2_apply_55 rfl (fun z11 hz11 => ?_)
    refine ev_callVv hX (k0 := 1) (As := [.inl (a1 - a1 / 100 * 100), .inl z11.1]) (rm := rm_X2_place) (c_X2_place l D cI cC td (a1 - a1 / 100 * 100) z11.1 z11.2) (cwV 2 hX.ts gX2_apply_X2_place rfl rfl rfl (by decide +kernel) ⟨Nat.le_of_ble_eq_true rfl, Nat.le_of_ble_eq_true rfl⟩) rfl rfl rfl rfl rfl rfl ⟨Nat.le_of_ble_eq_true rfl, Nat.le_of_ble_eq_true rfl⟩ dX2_apply_58 rfl (fun z12 hz12 => ?_)
    refine ev_bipush hX dX2_apply_61 (v := 99) (by decide +kernel) ?_
    exact ev_ireti hX hr dX2_apply_63
def rm_X2_takeBack : Room := { frames := 3, cells := 0, slots := 0, locals := 68 }
set_option maxHeartbeats 4000000 in
set_option maxRecDepth 100000 in
theorem c_X2_takeBack (l : Launch) (D : va_G) (cI cC : ClassId) (td : Nat → Option Nat) (a1 : Int32) (a2 : Int32) (w : mvW) : ∀ z, f_X2_takeBack a1 a2 w = some z → mv_Cv l D vwCl cI cC tbX td yX2_takeBack wsX2_takeBack rm_X2_takeBack shX w [.inr (.inl 1), .inl a1, .inl a2] z := by
  refine mv_startv (own := RX2) rfl (by decide) rfl rfl (L0 := [some (.inr (.inl 1)), some (.inl a1), some (.inl a2), none, none, none]) rfl (fun p e s m args below meth c A ad0 hX hr => ?_)
  rw [f_X2_takeBack]
  refine ev_iconst hX dX2_takeBack_0 (v := 1) (by decide +kernel) ?_
  refine ev_aload_n hX dX2_takeBack_1 rfl ?_
  refine ev_callVi hX (k0 := 1) (As := []) (rm := rm_X2_sideToPlay) (c_X2_sideToPlay l D cI cC td w) (cwV 0 hX.ts gX2_takeBack_X2_sideToPlay rfl rfl rfl (by decide +kernel) ⟨Nat.le_of_ble_eq_true rfl, Nat.le_of_ble_eq_true rfl⟩) rfl rfl rfl rfl rfl rfl ⟨Nat.le_of_ble_eq_true rfl, Nat.le_of_ble_eq_true rfl⟩ dX2_takeBack_2 rfl (fun z1 hz1 => ?_)
  refine ev_isub hX dX2_takeBack_5 ?_
  refine ev_istore_n hX dX2_takeBack_6 rfl (L' := [some (.inr (.inl 1)), some (.inl a1), some (.inl a2), some (.inl (1 - z1.1)), none, none]) rfl ?_
  refine ev_iload_n hX dX2_takeBack_7 rfl ?_
  refine ev_bipush hX dX2_takeBack_8 (v := 100) (by decide +kernel) ?_
  refine ev_irem hX dX2_takeBack_10 (by decide) ?_
  refine ev_istore hX dX2_takeBack_11 rfl (L' := [some (.inr (.inl 1)), some (.inl a1), some (.inl a2), some (.inl (1 - z1.1)), some (.inl (a1 - a1 / 100 * 100)), none]) rfl ?_
  refine ev_aload_n hX dX2_takeBack_13 rfl ?_
  refine ev_iload_n hX dX2_takeBack_14 rfl ?_
  refine ev_callVv hX (k0 := 1) (As := [.inl (1 - z1.1)]) (rm := rm_X2_setSideToPlay) (c_X2_setSideToPlay l D cI cC td (1 - z1.1) z1.2) (cwV 1 hX.ts gX2_takeBack_X2_setSideToPlay rfl rfl rfl (by decide +kernel) ⟨Nat.le_of_ble_eq_true rfl, Nat.le_of_ble_eq_true rfl⟩) rfl rfl rfl rfl rfl rfl ⟨Nat.le_of_ble_eq_true rfl, Nat.le_of_ble_eq_true rfl⟩ dX2_takeBack_15 rfl (fun z2 hz2 => ?_)
  refine ev_iload_n hX dX2_takeBack_18 rfl ?_
  refine ev_sipush hX dX2_takeBack_19 (v := 20000) (by decide +kernel) ?_
  refine ev_icmp_lt (tgt := 60) hX dX2_takeBack_22 (by decide) ?_ ?_
  · refine ev_aload_n hX dX2_takeBack_60 rfl ?_
    refine ev_iload hX dX2_takeBack_61 rfl ?_
    refine ev_callVi hX (k0 := 1) (As := [.inl (a1 - a1 / 100 * 100)]) (rm := rm_X2_manOn) (c_X2_manOn l D cI cC td (a1 - a1 / 100 * 100) z2) (cwV 1 hX.ts gX2_takeBack_X2_manOn rfl rfl rfl (by decide +kernel) ⟨Nat.le_of_ble_eq_true rfl, Nat.le_of_ble_eq_true rfl⟩) rfl rfl rfl rfl rfl rfl ⟨Nat.le_of_ble_eq_true rfl, Nat.le_of_ble_eq_true rfl⟩ dX2_takeBack_63 rfl (fun z3 hz3 => ?_)
    refine ev_istore hX dX2_takeBack_66 rfl (L' := [some (.inr (.inl 1)), some (.inl a1), some (.inl a2), some (.inl (1 - z1.1)), some (.inl (a1 - a1 / 100 * 100)), some (.inl z3.1)]) rfl ?_
    refine ev_aload_n hX dX2_takeBack_68 rfl ?_
    refine ev_iload hX dX2_takeBack_69 rfl ?_
    refine ev_iload_n hX dX2_takeBack_71 rfl ?_
    refine ev_callVv hX (k0 := 1) (As := [.inl (a1 - a1 / 100 * 100), .inl a2]) (rm := rm_X2_place) (c_X2_place l D cI cC td (a1 - a1 / 100 * 100) a2 z3.2) (cwV 2 hX.ts gX2_takeBack_X2_place rfl rfl rfl (by decide +kernel) ⟨Nat.le_of_ble_eq_true rfl, Nat.le_of_ble_eq_true rfl⟩) rfl rfl rfl rfl rfl rfl ⟨Nat.le_of_ble_eq_true rfl, Nat.le_of_ble_eq_true rfl⟩ dX2_takeBack_72 rfl (fun z4 hz4 => ?_)
    refine ev_aload_n hX dX2_takeBack_75 rfl ?_
    refine ev_iload_n hX dX2_takeBack_76 rfl ?_
    refine ev_sipush hX dX2_takeBack_77 (v := 10000) (by decide +kernel) ?_
    refine ev_irem hX dX2_takeBack_80 (by decide) ?_
    refine ev_bipush hX dX2_takeBack_81 (v := 100) (by decide +kernel) ?_
    refine ev_idiv hX dX2_takeBack_83 (by decide) ?_
    refine ev_iload_n hX dX2_takeBack_84 rfl ?_
    refine ev_sipush hX dX2_takeBack_85 (v := 10000) (by decide +kernel) ?_
    refine ev_icmp_lt (tgt := 98) hX dX2_takeBack_88 (by decide) ?_ ?_
    · refine ev_iload hX dX2_takeBack_98 rfl ?_
      refine ev_callVv hX (k0 := 1) (As := [.inl ((a1 - a1 / 10000 * 10000) / 100), .inl z3.1]) (rm := rm_X2_place) (c_X2_place l D cI cC td ((a1 - a1 / 10000 * 10000) / 100) z3.1 z4) (cwV 2 hX.ts gX2_takeBack_X2_place rfl rfl rfl (by decide +kernel) ⟨Nat.le_of_ble_eq_true rfl, Nat.le_of_ble_eq_true rfl⟩) rfl rfl rfl rfl rfl rfl ⟨Nat.le_of_ble_eq_true rfl, Nat.le_of_ble_eq_true rfl⟩ dX2_takeBack_100 rfl (fun z5 hz5 => ?_)
      refine ev_aload_n hX dX2_takeBack_103 rfl ?_
      refine ev_iload_n hX dX2_takeBack_104 rfl ?_
      refine ev_iload_n hX dX2_takeBack_105 rfl ?_
      refine ev_iconst hX dX2_takeBack_106 (v := (-1)) (by decide +kernel) ?_
      refine ev_callVv hX (k0 := 1) (As := [.inl (1 - z1.1), .inl a2, .inl (-1)]) (rm := rm_X2_changeHandForTaken) (c_X2_changeHandForTaken l D cI cC td (1 - z1.1) a2 (-1) z5) (cwV 3 hX.ts gX2_takeBack_X2_changeHandForTaken rfl rfl rfl (by decide +kernel) ⟨Nat.le_of_ble_eq_true rfl, Nat.le_of_ble_eq_true rfl⟩) rfl rfl rfl rfl rfl rfl ⟨Nat.le_of_ble_eq_true rfl, Nat.le_of_ble_eq_true rfl⟩ dX2_takeBack_107 rfl (fun z6 hz6 => ?_)
      exact ev_vret hX hr dX2_takeBack_110
    · refine ev_iload hX dX2_takeBack_91 rfl ?_
      refine ev_iconst hX dX2_takeBack_93 (v := 4) (by decide +kernel) ?_
      refine ev_isub hX dX2_takeBack_94 ?_
      refine ev_goto (tgt := 100) hX dX2_takeBack_95 (by decide) ?_
      refine ev_callVv hX (k0 := 1) (As := [.inl ((a1 - a1 / 10000 * 10000) / 100), .inl (z3.1 - 4)]) (rm := rm_X2_place) (c_X2_place l D cI cC td ((a1 - a1 / 10000 * 10000) / 100) (z3.1 - 4) z4) (cwV 2 hX.ts gX2_takeBack_X2_place rfl rfl rfl (by decide +kernel) ⟨Nat.le_of_ble_eq_true rfl, Nat.le_of_ble_eq_true rfl⟩) rfl rfl rfl rfl rfl rfl ⟨Nat.le_of_ble_eq_true rfl, Nat.le_of_ble_eq_true rfl⟩ dX2_takeBack_100 rfl (fun z7 hz7 => ?_)
      refine ev_aload_n hX dX2_takeBack_103 rfl ?_
      refine ev_iload_n hX dX2_takeBack_104 rfl ?_
      refine ev_iload_n hX dX2_takeBack_105 rfl ?_
      refine ev_iconst hX dX2_takeBack_106 (v := (-1)) (by decide +kernel) ?_
      refine ev_callVv hX (k0 := 1) (As := [.inl (1 - z1.1), .inl a2, .inl (-1)]) (rm := rm_X2_changeHandForTaken) (c_X2_changeHandForTaken l D cI cC td (1 - z1.1) a2 (-1) z7) (cwV 3 hX.ts gX2_takeBack_X2_changeHandForTaken rfl rfl rfl (by decide +kernel) ⟨Nat.le_of_ble_eq_true rfl, Nat.le_of_ble_eq_true rfl⟩) rfl rfl rfl rfl rfl rfl ⟨Nat.le_of_ble_eq_true rfl, Nat.le_of_ble_eq_true rfl⟩ dX2_takeBack_107 rfl (fun z8 hz8 => ?_)
      exact ev_vret hX hr dX2_takeBack_110
  · refine ev_iload_n hX dX2_takeBack_25 rfl ?_
    refine ev_sipush hX dX2_takeBack_26 (v := 20000) (by decide +kernel) ?_
    refine ev_isub hX dX2_takeBack_29 ?_
    refine ev_bipush hX dX2_takeBack_30 (v := 100) (by decide +kernel) ?_
    refine ev_idiv hX dX2_takeBack_32 (by decide) ?_
    refine ev_istore hX dX2_takeBack_33 rfl (L' := [some (.inr (.inl 1)), some (.inl a1), some (.inl a2), some (.inl (1 - z1.1)), some (.inl (a1 - a1 / 100 * 100)), some (.inl ((a1 - 20000) / 100))]) rfl ?_
    refine ev_aload_n hX dX2_takeBack_35 rfl ?_
    refine ev_iload hX dX2_takeBack_36 rfl ?_
    refine ev_bipush hX dX2_takeBack_38 (v := 99) (by decide +kernel) ?_
    refine ev_callVv hX (k0 := 1) (As := [.inl (a1 - a1 / 100 * 100), .inl 99]) (rm := rm_X2_place) (c_X2_place l D cI cC td (a1 - a1 / 100 * 100) 99 z2) (cwV 2 hX.ts gX2_takeBack_X2_place rfl rfl rfl (by decide +kernel) ⟨Nat.le_of_ble_eq_true rfl, Nat.le_of_ble_eq_true rfl⟩) rfl rfl rfl rfl rfl rfl ⟨Nat.le_of_ble_eq_true rfl, Nat.le_of_ble_eq_true rfl⟩ dX2_takeBack_40 rfl (fun z9 hz9 => ?_)
    refine ev_aload_n hX dX2_takeBack_43 rfl ?_
    refine ev_iload_n hX dX2_takeBack_44 rfl ?_
    refine ev_iload hX dX2_takeBack_45 rfl ?_
    refine ev_aload_n hX dX2_takeBack_47 rfl ?_
    refine ev_iload_n hX dX2_takeBack_48 rfl ?_
    refine ev_iload hX dX2_takeBack_49 rfl ?_
    refine ev_callVi hX (k0 := 1) (As := [.inl (1 - z1.1), .inl ((a1 - 20000) / 100)]) (rm := rm_X2_inHand) (c_X2_inHand l D cI cC td (1 - z1.1) ((a1 - 20000) / 100) z9) (cwV 2 hX.ts gX2_takeBack_X2_inHand rfl rfl rfl (by decide +kernel) ⟨Nat.le_of_ble_eq_true rfl, Nat.le_of_ble_eq_true rfl⟩) rfl rfl rfl rfl rfl rfl ⟨Nat.le_of_ble_eq_true rfl, Nat.le_of_ble_eq_true rfl⟩ dX2_takeBack_51 rfl (fun z10 hz10 => ?_)
    refine ev_iconst hX dX2_takeBack_54 (v := 1) (by decide +kernel) ?_
    refine ev_iadd hX dX2_takeBack_55 ?_
    refine ev_callVv hX (k0 := 1) (As := [.inl (1 - z1.1), .inl ((a1 - 20000) / 100), .inl (z10.1 + 1)]) (rm := rm_X2_setInHand) (c_X2_setInHand l D cI cC td (1 - z1.1) ((a1 - 20000) / 100) (z10.1 + 1) z10.2) (cwV 3 hX.ts gX2_takeBack_X2_setInHand rfl rfl rfl (by decide +kernel) ⟨Nat.le_of_ble_eq_true rfl, Nat.le_of_ble_eq_true rfl⟩) rfl rfl rfl rfl rfl rfl ⟨Nat.le_of_ble_eq_true rfl, Nat.le_of_ble_eq_true rfl⟩ dX2_takeBack_56 rfl (fun z11 hz11 => ?_)
    exact ev_vret hX hr dX2_takeBack_59
def rm_X2_attackedFrom : Room := { frames := 1, cells := 0, slots := 0, locals := 21 }
set_option maxRecDepth 20000 in
theorem in_X2_attackedFrom_X2 : ∀ w ∈ u_ws RX2 TX2 2, w ∈ wsX2_attackedFrom := by decide +kernel
set_option maxHeartbeats 4000000 in
set_option maxRecDepth 100000 in
theorem e_X2_attackedFrom_71 (hX : mv_X p s m args meth c D vwCl cI cC tbX td A cX2_attackedFrom 9 RX2 wsX2_attackedFrom) (hr : meth.sig.returnType = (some .int)) (k33 : Int32 → Int32 → Int32 → Int32 → mvW → Option (Int32 × mvW)) (hk33 : ∀ (x1 : Int32) (x2 : Int32) (x3 : Int32) (x4 : Int32) (w : mvW), EV p l e (headSpec wsX2_attackedFrom rm_X2_attackedFrom).room s m args below meth c D vwCl cI cC td A (fun a => a = ad0) (mv_Qi below args s D vwCl cI cC shX ad0 A) 0 0 shX [some (.inr (.inl 1)), some (.inl x1), some (.inl x2), some (.inl x3), some (.inl x4), none, none, none, none] [] 33 w (k33 x1 x2 x3 x4 w)) (k46 : Int32 → Int32 → Int32 → Int32 → Int32 → Int32 → mvW → Option (Int32 × mvW)) (hk46 : ∀ (x1 : Int32) (x2 : Int32) (x3 : Int32) (x4 : Int32) (x5 : Int32) (x6 : Int32) (w : mvW), EV p l e (headSpec wsX2_attackedFrom rm_X2_attackedFrom).room s m args below meth c D vwCl cI cC td A (fun a => a = ad0) (mv_Qi below args s D vwCl cI cC shX ad0 A) 0 0 shX [some (.inr (.inl 1)), some (.inl x1), some (.inl x2), some (.inl x3), some (.inl x4), some (.inl x5), some (.inl x6), none, none] [] 46 w (k46 x1 x2 x3 x4 x5 x6 w)) (x1 : Int32) (x2 : Int32) (x3 : Int32) (x4 : Int32) (x5 : Int32) (x6 : Int32) (s0 : Int32) (w : mvW) : EV p l e (headSpec wsX2_attackedFrom rm_X2_attackedFrom).room s m args below meth c D vwCl cI cC td A (fun a => a = ad0) (mv_Qi below args s D vwCl cI cC shX ad0 A) 0 0 shX [some (.inr (.inl 1)), some (.inl x1), some (.inl x2), some (.inl x3), some (.inl x4), some (.inl x5), some (.inl x6), none, none] [.inl s0] 71 w (f_X2_attackedFrom_71 k33 k46 x1 x2 x3 x4 x5 x6 s0 w) := by
  rw [f_X2_attackedFrom_71]
  refine ev_istore hX dX2_attackedFrom_71 rfl (L' := [some (.inr (.inl 1)), some (.inl x1), some (.inl x2), some (.inl x3), some (.inl x4), some (.inl x5), some (.inl x6), some (.inl s0), none]) rfl ?_
  refine ev_iload hX dX2_attackedFrom_73 rfl ?_
  refine ev_bipush hX dX2_attackedFrom_75 (v := 8) (by decide +kernel) ?_
  refine ev_imul hX dX2_attackedFrom_77 ?_
  refine ev_iload hX dX2_attackedFrom_78 rfl ?_
  refine ev_iadd hX dX2_attackedFrom_80 ?_
  refine ev_istore hX dX2_attackedFrom_81 rfl (L' := [some (.inr (.inl 1)), some (.inl x1), some (.inl x2), some (.inl x3), some (.inl x4), some (.inl x5), some (.inl x6), some (.inl s0), some (.inl ((x5 * 8) + x4))]) rfl ?_
  refine ev_iload hX dX2_attackedFrom_83 rfl ?_
  refine ev_iload hX dX2_attackedFrom_85 rfl ?_
  refine ev_ishr hX dX2_attackedFrom_87 ?_
  refine ev_iconst hX dX2_attackedFrom_88 (v := 1) (by decide +kernel) ?_
  refine ev_iand hX dX2_attackedFrom_89 ?_
  refine ev_if_eq (tgt := 163) hX dX2_attackedFrom_90 (by decide) ?_ ?_
  · refine ev_iinc hX dX2_attackedFrom_163 rfl (v := 1) (by decide +kernel) (L' := [some (.inr (.inl 1)), some (.inl x1), some (.inl x2), some (.inl x3), some (.inl (x4 + 1)), some (.inl x5), some (.inl x6), some (.inl s0), some (.inl ((x5 * 8) + x4))]) rfl ?_
    refine ev_goto (tgt := 33) hX dX2_attackedFrom_166 (by decide) ?_
    refine ev_mask [true, true, true, true, true, false, false, false, false] (L' := [some (.inr (.inl 1)), some (.inl x1), some (.inl x2), some (.inl x3), some (.inl (x4 + 1)), none, none, none, none]) rfl rfl ?_
    exact hk33 x1 x2 x3 (x4 + 1) w
  · refine ev_iload hX dX2_attackedFrom_93 rfl ?_
    refine ev_if_lt (tgt := 163) hX dX2_attackedFrom_95 (by decide) ?_ ?_
    · refine ev_iinc hX dX2_attackedFrom_163 rfl (v := 1) (by decide +kernel) (L' := [some (.inr (.inl 1)), some (.inl x1), some (.inl x2), some (.inl x3), some (.inl (x4 + 1)), some (.inl x5), some (.inl x6), some (.inl s0), some (.inl ((x5 * 8) + x4))]) rfl ?_
      refine ev_goto (tgt := 33) hX dX2_attackedFrom_166 (by decide) ?_
      refine ev_mask [true, true, true, true, true, false, false, false, false] (L' := [some (.inr (.inl 1)), some (.inl x1), some (.inl x2), some (.inl x3), some (.inl (x4 + 1)), none, none, none, none]) rfl rfl ?_
      exact hk33 x1 x2 x3 (x4 + 1) w
    · refine ev_iload hX dX2_attackedFrom_98 rfl ?_
      refine ev_aload_n hX dX2_attackedFrom_100 rfl ?_
      refine ev_getr (k := 1) hX (T := TX2) in_X2_attackedFrom_X2 rfl rfl rfl (show Cond.fieldLink RX2 15 "FiveShogi$Position" "beside" "[I" ∈ _ by decide +kernel) rfl dX2_attackedFrom_101 ?_
      refine ev_alen hX rfl (v := 200) (by decide +kernel) dX2_attackedFrom_104 ?_
      refine ev_icmp_lt (tgt := 111) hX dX2_attackedFrom_105 (by decide) ?_ ?_
      · refine ev_aload_n hX dX2_attackedFrom_111 rfl ?_
        refine ev_getr (k := 1) hX (T := TX2) in_X2_attackedFrom_X2 rfl rfl rfl (show Cond.fieldLink RX2 15 "FiveShogi$Position" "beside" "[I" ∈ _ by decide +kernel) rfl dX2_attackedFrom_112 ?_
        refine ev_iload hX dX2_attackedFrom_115 rfl ?_
        refine ev_iald hX rfl dX2_attackedFrom_117 (fun j4 => ?_)
        refine ev_istore hX dX2_attackedFrom_118 rfl (L' := [some (.inr (.inl 1)), some (.inl x1), some (.inl x2), some (.inl x3), some (.inl x4), some (.inl (w 3 j4)), some (.inl x6), some (.inl s0), some (.inl ((x5 * 8) + x4))]) rfl ?_
        refine ev_iload hX dX2_attackedFrom_120 rfl ?_
        refine ev_if_lt (tgt := 163) hX dX2_attackedFrom_122 (by decide) ?_ ?_
        · refine ev_iinc hX dX2_attackedFrom_163 rfl (v := 1) (by decide +kernel) (L' := [some (.inr (.inl 1)), some (.inl x1), some (.inl x2), some (.inl x3), some (.inl (x4 + 1)), some (.inl (w 3 j4)), some (.inl x6), some (.inl s0), some (.inl ((x5 * 8) + x4))]) rfl ?_
          refine ev_goto (tgt := 33) hX dX2_attackedFrom_166 (by decide) ?_
          refine ev_mask [true, true, true, true, true, false, false, false, false] (L' := [some (.inr (.inl 1)), some (.inl x1), some (.inl x2), some (.inl x3), some (.inl (x4 + 1)), none, none, none, none]) rfl rfl ?_
          exact hk33 x1 x2 x3 (x4 + 1) w
        · refine ev_iload hX dX2_attackedFrom_125 rfl ?_
          refine ev_bipush hX dX2_attackedFrom_127 (v := 25) (by decide +kernel) ?_
          refine ev_icmp_lt (tgt := 135) hX dX2_attackedFrom_129 (by decide) ?_ ?_
          · refine ev_iload_n hX dX2_attackedFrom_135 rfl ?_
            refine ev_iconst hX dX2_attackedFrom_136 (v := 1) (by decide +kernel) ?_
            refine ev_iload hX dX2_attackedFrom_137 rfl ?_
            refine ev_ishl hX dX2_attackedFrom_139 ?_
            refine ev_ior hX dX2_attackedFrom_140 ?_
            refine ev_istore_n hX dX2_attackedFrom_141 rfl (L' := [some (.inr (.inl 1)), some (.inl x1), some (.inl x2), some (.inl (x3 ||| (1 <<< ((w 3 j4) &&& 31)))), some (.inl x4), some (.inl (w 3 j4)), some (.inl x6), some (.inl s0), some (.inl ((x5 * 8) + x4))]) rfl ?_
            refine ev_aload_n hX dX2_attackedFrom_142 rfl ?_
            refine ev_getr (k := 0) hX (T := TX2) in_X2_attackedFrom_X2 rfl rfl rfl (show Cond.fieldLink RX2 11 "FiveShogi$Position" "state" "[I" ∈ _ by decide +kernel) rfl dX2_attackedFrom_143 ?_
            refine ev_iload hX dX2_attackedFrom_146 rfl ?_
            refine ev_iald hX rfl dX2_attackedFrom_148 (fun j5 => ?_)
            refine ev_bipush hX dX2_attackedFrom_149 (v := 99) (by decide +kernel) ?_
            refine ev_icmp_eq (tgt := 157) hX dX2_attackedFrom_151 (by decide) ?_ ?_
            · refine ev_iinc hX dX2_attackedFrom_157 rfl (v := 1) (by decide +kernel) (L' := [some (.inr (.inl 1)), some (.inl x1), some (.inl x2), some (.inl (x3 ||| (1 <<< ((w 3 j4) &&& 31)))), some (.inl x4), some (.inl (w 3 j4)), some (.inl (x6 + 1)), some (.inl s0), some (.inl ((x5 * 8) + x4))]) rfl ?_
              refine ev_goto (tgt := 46) hX dX2_attackedFrom_160 (by decide) ?_
              refine ev_mask [true, true, true, true, true, true, true, false, false] (L' := [some (.inr (.inl 1)), some (.inl x1), some (.inl x2), some (.inl (x3 ||| (1 <<< ((w 3 j4) &&& 31)))), some (.inl x4), some (.inl (w 3 j4)), some (.inl (x6 + 1)), none, none]) rfl rfl ?_
              exact hk46 x1 x2 (x3 ||| (1 <<< ((w 3 j4) &&& 31))) x4 (w 3 j4) (x6 + 1) w
            · refine ev_goto (tgt := 163) hX dX2_attackedFrom_154 (by decide) ?_
              refine ev_iinc hX dX2_attackedFrom_163 rfl (v := 1) (by decide +kernel) (L' := [some (.inr (.inl 1)), some (.inl x1), some (.inl x2), some (.inl (x3 ||| (1 <<< ((w 3 j4) &&& 31)))), some (.inl (x4 + 1)), some (.inl (w 3 j4)), some (.inl x6), some (.inl s0), some (.inl ((x5 * 8) + x4))]) rfl ?_
              refine ev_goto (tgt := 33) hX dX2_attackedFrom_166 (by decide) ?_
              refine ev_mask [true, true, true, true, true, false, false, false, false] (L' := [some (.inr (.inl 1)), some (.inl x1), some (.inl x2), some (.inl (x3 ||| (1 <<< ((w 3 j4) &&& 31)))), some (.inl (x4 + 1)), none, none, none, none]) rfl rfl ?_
              exact hk33 x1 x2 (x3 ||| (1 <<< ((w 3 j4) &&& 31))) (x4 + 1) w
          · refine ev_goto (tgt := 163) hX dX2_attackedFrom_132 (by decide) ?_
            refine ev_iinc hX dX2_attackedFrom_163 rfl (v := 1) (by decide +kernel) (L' := [some (.inr (.inl 1)), some (.inl x1), some (.inl x2), some (.inl x3), some (.inl (x4 + 1)), some (.inl (w 3 j4)), some (.inl x6), some (.inl s0), some (.inl ((x5 * 8) + x4))]) rfl ?_
            refine ev_goto (tgt := 33) hX dX2_attackedFrom_166 (by decide) ?_
            refine ev_mask [true, true, true, true, true, false, false, false, false] (L' := [some (.inr (.inl 1)), some (.inl x1), some (.inl x2), some (.inl x3), some (.inl (x4 + 1)), none, none, none, none]) rfl rfl ?_
            exact hk33 x1 x2 x3 (x4 + 1) w
      · refine ev_goto (tgt := 163) hX dX2_attackedFrom_108 (by decide) ?_
        refine ev_iinc hX dX2_attackedFrom_163 rfl (v := 1) (by decide +kernel) (L' := [some (.inr (.inl 1)), some (.inl x1), some (.inl x2), some (.inl x3), some (.inl (x4 + 1)), some (.inl x5), some (.inl x6), some (.inl s0), some (.inl ((x5 * 8) + x4))]) rfl ?_
        refine ev_goto (tgt := 33) hX dX2_attackedFrom_166 (by decide) ?_
        refine ev_mask [true, true, true, true, true, false, false, false, false] (L' := [some (.inr (.inl 1)), some (.inl x1), some (.inl x2), some (.inl x3), some (.inl (x4 + 1)), none, none, none, none]) rfl rfl ?_
        exact hk33 x1 x2 x3 (x4 + 1) w
set_option maxHeartbeats 4000000 in
set_option maxRecDepth 100000 in
theorem e_X2_attackedFrom_46 (hX : mv_X p s m args meth c D vwCl cI cC tbX td A cX2_attackedFrom 9 RX2 wsX2_attackedFrom) (hr : meth.sig.returnType = (some .int)) (k33 : Int32 → Int32 → Int32 → Int32 → mvW → Option (Int32 × mvW)) (hk33 : ∀ (x1 : Int32) (x2 : Int32) (x3 : Int32) (x4 : Int32) (w : mvW), EV p l e (headSpec wsX2_attackedFrom rm_X2_attackedFrom).room s m args below meth c D vwCl cI cC td A (fun a => a = ad0) (mv_Qi below args s D vwCl cI cC shX ad0 A) 0 0 shX [some (.inr (.inl 1)), some (.inl x1), some (.inl x2), some (.inl x3), some (.inl x4), none, none, none, none] [] 33 w (k33 x1 x2 x3 x4 w)) : ∀ (n : Nat) (x1 : Int32) (x2 : Int32) (x3 : Int32) (x4 : Int32) (x5 : Int32) (x6 : Int32) (w : mvW), EV p l e (headSpec wsX2_attackedFrom rm_X2_attackedFrom).room s m args below meth c D vwCl cI cC td A (fun a => a = ad0) (mv_Qi below args s D vwCl cI cC shX ad0 A) 0 0 shX [some (.inr (.inl 1)), some (.inl x1), some (.inl x2), some (.inl x3), some (.inl x4), some (.inl x5), some (.inl x6), none, none] [] 46 w (f_X2_attackedFrom_46 k33 n x1 x2 x3 x4 x5 x6 w) := by
  intro n
  induction n with
  | zero => intro x1 x2 x3 x4 x5 x6 w; exact ev_none
  | succ n ih =>
    intro x1 x2 x3 x4 x5 x6 w
    rw [f_X2_attackedFrom_46]
    refine ev_iload hX dX2_attackedFrom_46 rfl ?_
    refine ev_iconst hX dX2_attackedFrom_48 (v := 5) (by decide +kernel) ?_
    refine ev_icmp_ge (tgt := 163) hX dX2_attackedFrom_49 (by decide) ?_ ?_
    · refine ev_iinc hX dX2_attackedFrom_163 rfl (v := 1) (by decide +kernel) (L' := [some (.inr (.inl 1)), some (.inl x1), some (.inl x2), some (.inl x3), some (.inl (x4 + 1)), some (.inl x5), some (.inl x6), none, none]) rfl ?_
      refine ev_goto (tgt := 33) hX dX2_attackedFrom_166 (by decide) ?_
      refine ev_mask [true, true, true, true, true, false, false, false, false] (L' := [some (.inr (.inl 1)), some (.inl x1), some (.inl x2), some (.inl x3), some (.inl (x4 + 1)), none, none, none, none]) rfl rfl ?_
      exact hk33 x1 x2 x3 (x4 + 1) w
    · refine ev_iload hX dX2_attackedFrom_52 rfl ?_
      refine ev_iconst hX dX2_attackedFrom_54 (v := 1) (by decide +kernel) ?_
      refine ev_icmp_ne (tgt := 66) hX dX2_attackedFrom_55 (by decide) ?_ ?_
      · refine ev_getsN (j := 3) (host := "FiveShogi") hX rfl (List.mem_of_getElem? (i := 2) rfl) dX2_attackedFrom_66 ?_
        refine ev_iload_n hX dX2_attackedFrom_69 rfl ?_
        refine ev_tald (xs := tb_SLIDES) hX rfl dX2_attackedFrom_70 (fun j2 => ?_)
        refine ev_mask [true, true, true, true, true, true, true, false, false] (L' := [some (.inr (.inl 1)), some (.inl x1), some (.inl x2), some (.inl x3), some (.inl x4), some (.inl x5), some (.inl x6), none, none]) rfl rfl ?_
        exact e_X2_attackedFrom_71 hX hr k33 hk33 (fun x1' x2' x3' x4' x5' x6' w' => f_X2_attackedFrom_46 k33 n x1' x2' x3' x4' x5' x6' w') (fun x1' x2' x3' x4' x5' x6' w' => ih x1' x2' x3' x4' x5' x6' w') x1 x2 x3 x4 x5 x6 (tb_SLIDES.getD j2 0) w
      · refine ev_getsN (j := 2) (host := "FiveShogi") hX rfl (List.mem_of_getElem? (i := 1) rfl) dX2_attackedFrom_58 ?_
        refine ev_iload_n hX dX2_attackedFrom_61 rfl ?_
        refine ev_tald (xs := tb_STEPS) hX rfl dX2_attackedFrom_62 (fun j3 => ?_)
        refine ev_goto (tgt := 71) hX dX2_attackedFrom_63 (by decide) ?_
        refine ev_mask [true, true, true, true, true, true, true, false, false] (L' := [some (.inr (.inl 1)), some (.inl x1), some (.inl x2), some (.inl x3), some (.inl x4), some (.inl x5), some (.inl x6), none, none]) rfl rfl ?_
        exact e_X2_attackedFrom_71 hX hr k33 hk33 (fun x1' x2' x3' x4' x5' x6' w' => f_X2_attackedFrom_46 k33 n x1' x2' x3' x4' x5' x6' w') (fun x1' x2' x3' x4' x5' x6' w' => ih x1' x2' x3' x4' x5' x6' w') x1 x2 x3 x4 x5 x6 (tb_STEPS.getD j3 0) w
set_option maxHeartbeats 4000000 in
set_option maxRecDepth 100000 in
theorem e_X2_attackedFrom_33 (hX : mv_X p s m args meth c D vwCl cI cC tbX td A cX2_attackedFrom 9 RX2 wsX2_attackedFrom) (hr : meth.sig.returnType = (some .int)) : ∀ (n : Nat) (x1 : Int32) (x2 : Int32) (x3 : Int32) (x4 : Int32) (w : mvW), EV p l e (headSpec wsX2_attackedFrom rm_X2_attackedFrom).room s m args below meth c D vwCl cI cC td A (fun a => a = ad0) (mv_Qi below args s D vwCl cI cC shX ad0 A) 0 0 shX [some (.inr (.inl 1)), some (.inl x1), some (.inl x2), some (.inl x3), some (.inl x4), none, none, none, none] [] 33 w (f_X2_attackedFrom_33 n x1 x2 x3 x4 w) := by
  intro n
  induction n with
  | zero => intro x1 x2 x3 x4 w; exact ev_none
  | succ n ih =>
    intro x1 x2 x3 x4 w
    rw [f_X2_attackedFrom_33]
    refine ev_iload hX dX2_attackedFrom_33 rfl ?_
    refine ev_bipush hX dX2_attackedFrom_35 (v := 8) (by decide +kernel) ?_
    refine ev_icmp_ge (tgt := 169) hX dX2_attackedFrom_37 (by decide) ?_ ?_
    · refine ev_iload_n hX dX2_attackedFrom_169 rfl ?_
      exact ev_ireti hX hr dX2_attackedFrom_170
    · refine ev_iload_n hX dX2_attackedFrom_40 rfl ?_
      refine ev_istore hX dX2_attackedFrom_41 rfl (L' := [some (.inr (.inl 1)), some (.inl x1), some (.inl x2), some (.inl x3), some (.inl x4), some (.inl x1), none, none, none]) rfl ?_
      refine ev_iconst hX dX2_attackedFrom_43 (v := 1) (by decide +kernel) ?_
      refine ev_istore hX dX2_attackedFrom_44 rfl (L' := [some (.inr (.inl 1)), some (.inl x1), some (.inl x2), some (.inl x3), some (.inl x4), some (.inl x1), some (.inl 1), none, none]) rfl ?_
      refine ev_mask [true, true, true, true, true, true, true, false, false] (L' := [some (.inr (.inl 1)), some (.inl x1), some (.inl x2), some (.inl x3), some (.inl x4), some (.inl x1), some (.inl 1), none, none]) rfl rfl ?_
      exact e_X2_attackedFrom_46 hX hr (fun x1' x2' x3' x4' w' => f_X2_attackedFrom_33 n x1' x2' x3' x4' w') (fun x1' x2' x3' x4' w' => ih x1' x2' x3' x4' w') 4096 x1 x2 x3 x4 x1 1 w
set_option maxHeartbeats 4000000 in
set_option maxRecDepth 100000 in
theorem c_X2_attackedFrom (l : Launch) (D : va_G) (cI cC : ClassId) (td : Nat → Option Nat) (a1 : Int32) (w : mvW) : ∀ z, f_X2_attackedFrom a1 w = some z → mv_Ci l D vwCl cI cC tbX td yX2_attackedFrom wsX2_attackedFrom rm_X2_attackedFrom shX w [.inr (.inl 1), .inl a1] z := by
  refine mv_starti (own := RX2) rfl (by decide) rfl rfl (L0 := [some (.inr (.inl 1)), some (.inl a1), none, none, none, none, none, none, none]) rfl (fun p e s m args below meth c A ad0 hX hr => ?_)
  rw [f_X2_attackedFrom]
  refine ev_aload_n hX dX2_attackedFrom_0 rfl ?_
  refine ev_iload_n hX dX2_attackedFrom_1 rfl ?_
  refine ev_callVi hX (k0 := 1) (As := [.inl a1]) (rm := rm_X2_manOn) (c_X2_manOn l D cI cC td a1 w) (cwV 1 hX.ts gX2_attackedFrom_X2_manOn rfl rfl rfl (by decide +kernel) ⟨Nat.le_of_ble_eq_true rfl, Nat.le_of_ble_eq_true rfl⟩) rfl rfl rfl rfl rfl rfl ⟨Nat.le_of_ble_eq_true rfl, Nat.le_of_ble_eq_true rfl⟩ dX2_attackedFrom_2 rfl (fun z1 hz1 => ?_)
  refine ev_istore_n hX dX2_attackedFrom_5 rfl (L' := [some (.inr (.inl 1)), some (.inl a1), some (.inl z1.1), none, none, none, none, none, none]) rfl ?_
  refine ev_iload_n hX dX2_attackedFrom_6 rfl ?_
  refine ev_if_lt (tgt := 26) hX dX2_attackedFrom_7 (by decide) ?_ ?_
  · refine ev_iconst hX dX2_attackedFrom_26 (v := 0) (by decide +kernel) ?_
    exact ev_ireti hX hr dX2_attackedFrom_27
  · refine ev_iload_n hX dX2_attackedFrom_10 rfl ?_
    refine ev_getsN (j := 2) (host := "FiveShogi") hX rfl (List.mem_of_getElem? (i := 1) rfl) dX2_attackedFrom_11 ?_
    refine ev_tlen hX rfl (v := 20) (by decide +kernel) dX2_attackedFrom_14 ?_
    refine ev_icmp_ge (tgt := 26) hX dX2_attackedFrom_15 (by decide) ?_ ?_
    · refine ev_iconst hX dX2_attackedFrom_26 (v := 0) (by decide +kernel) ?_
      exact ev_ireti hX hr dX2_attackedFrom_27
    · refine ev_iload_n hX dX2_attackedFrom_18 rfl ?_
      refine ev_getsN (j := 3) (host := "FiveShogi") hX rfl (List.mem_of_getElem? (i := 2) rfl) dX2_attackedFrom_19 ?_
      refine ev_tlen hX rfl (v := 20) (by decide +kernel) dX2_attackedFrom_22 ?_
      refine ev_icmp_lt (tgt := 28) hX dX2_attackedFrom_23 (by decide) ?_ ?_
      · refine ev_iconst hX dX2_attackedFrom_28 (v := 0) (by decide +kernel) ?_
        refine ev_istore_n hX dX2_attackedFrom_29 rfl (L' := [some (.inr (.inl 1)), some (.inl a1), some (.inl z1.1), some (.inl 0), none, none, none, none, none]) rfl ?_
        refine ev_iconst hX dX2_attackedFrom_30 (v := 0) (by decide +kernel) ?_
        refine ev_istore hX dX2_attackedFrom_31 rfl (L' := [some (.inr (.inl 1)), some (.inl a1), some (.inl z1.1), some (.inl 0), some (.inl 0), none, none, none, none]) rfl ?_
        refine ev_mask [true, true, true, true, true, false, false, false, false] (L' := [some (.inr (.inl 1)), some (.inl a1), some (.inl z1.1), some (.inl 0), some (.inl 0), none, none, none, none]) rfl rfl ?_
        exact e_X2_attackedFrom_33 hX hr 4096 a1 z1.1 0 0 z1.2
      · refine ev_iconst hX dX2_attackedFrom_26 (v := 0) (by decide +kernel) ?_
        exact ev_ireti hX hr dX2_attackedFrom_27
def rm_X3_canEnter : Room := { frames := 1, cells := 0, slots := 0, locals := 21 }
set_option maxRecDepth 20000 in
theorem in_X3_canEnter_X3 : ∀ w ∈ u_ws RX3 TX3 6, w ∈ wsX3_canEnter := by decide +kernel
set_option maxHeartbeats 4000000 in
set_option maxRecDepth 100000 in
theorem c_X3_canEnter (l : Launch) (D : va_G) (cI cC : ClassId) (td : Nat → Option Nat) (a1 : Int32) (a2 : Int32) (w : mvW) : ∀ z, f_X3_canEnter a1 a2 w = some z → mv_Ci l D vwCl cI cC tbX td yX3_canEnter wsX3_canEnter rm_X3_canEnter shX w [.inr (.inl 4), .inl a1, .inl a2] z := by
  refine mv_starti (own := RX3) rfl (by decide) rfl rfl (L0 := [some (.inr (.inl 4)), some (.inl a1), some (.inl a2), none]) rfl (fun p e s m args below meth c A ad0 hX hr => ?_)
  rw [f_X3_canEnter]
  refine ev_aload_n hX dX3_canEnter_0 rfl ?_
  refine ev_getr (k := 0) hX (T := TX3) in_X3_canEnter_X3 rfl rfl rfl (show Cond.fieldLink RX3 28 "FiveShogi$Rules" "position" "LFiveShogi$Position;" ∈ _ by decide +kernel) rfl dX3_canEnter_1 ?_
  refine ev_iload_n hX dX3_canEnter_4 rfl ?_
  refine ev_callVi hX (k0 := 1) (As := [.inl a2]) (rm := rm_X2_manOn) (c_X2_manOn l D cI cC td a2 w) (cwV 1 hX.ts gX3_canEnter_X2_manOn rfl rfl rfl (by decide +kernel) ⟨Nat.le_of_ble_eq_true rfl, Nat.le_of_ble_eq_true rfl⟩) rfl rfl rfl rfl rfl rfl ⟨Nat.le_of_ble_eq_true rfl, Nat.le_of_ble_eq_true rfl⟩ dX3_canEnter_5 rfl (fun z1 hz1 => ?_)
  refine ev_istore_n hX dX3_canEnter_8 rfl (L' := [some (.inr (.inl 4)), some (.inl a1), some (.inl a2), some (.inl z1.1)]) rfl ?_
  refine ev_iload_n hX dX3_canEnter_9 rfl ?_
  refine ev_bipush hX dX3_canEnter_10 (v := 99) (by decide +kernel) ?_
  refine ev_icmp_eq (tgt := 30) hX dX3_canEnter_12 (by decide) ?_ ?_
  · refine ev_iconst hX dX3_canEnter_30 (v := 1) (by decide +kernel) ?_
    refine ev_goto (tgt := 35) hX dX3_canEnter_31 (by decide) ?_
    exact ev_iretz1 hX hr dX3_canEnter_35
  · refine ev_iload_n hX dX3_canEnter_15 rfl ?_
    refine ev_callNi hX (As := [.inl z1.1]) (rm := rm_X4_sideOf) (c_X4_sideOf l D cI cC td z1.1 z1.2) ⟨va_cnB (host := "FiveShogi") 1 hX.ts gX3_canEnter_X4_sideOf_n70 rfl rfl rfl (hX.sta.2.1 (_, 70, _, _) (List.mem_of_getElem? (i := 17) rfl)) (hX.ts _ (show Cond.initialized RX4 ∈ _ by decide +kernel)) (by decide +kernel) ⟨Nat.le_of_ble_eq_true rfl, Nat.le_of_ble_eq_true rfl⟩, hX.ts _ (show Cond.static yX4_sideOf ∈ _ by decide +kernel), trivial⟩ rfl rfl rfl ⟨Nat.le_of_ble_eq_true rfl, Nat.le_of_ble_eq_true rfl⟩ dX3_canEnter_16 rfl (fun z2 hz2 => ?_)
    refine ev_iload_n hX dX3_canEnter_19 rfl ?_
    refine ev_icmp_eq (tgt := 34) hX dX3_canEnter_20 (by decide) ?_ ?_
    · refine ev_iconst hX dX3_canEnter_34 (v := 0) (by decide +kernel) ?_
      exact ev_iretz0 hX hr dX3_canEnter_35
    · refine ev_iload_n hX dX3_canEnter_23 rfl ?_
      refine ev_callNi hX (As := [.inl z1.1]) (rm := rm_X4_kindOf) (c_X4_kindOf l D cI cC td z1.1 z2.2) ⟨va_cnB (host := "FiveShogi") 1 hX.ts gX3_canEnter_X4_kindOf_n128 rfl rfl rfl (hX.sta.2.1 (_, 128, _, _) (List.mem_of_getElem? (i := 18) rfl)) (hX.ts _ (show Cond.initialized RX4 ∈ _ by decide +kernel)) (by decide +kernel) ⟨Nat.le_of_ble_eq_true rfl, Nat.le_of_ble_eq_true rfl⟩, hX.ts _ (show Cond.static yX4_kindOf ∈ _ by decide +kernel), trivial⟩ rfl rfl rfl ⟨Nat.le_of_ble_eq_true rfl, Nat.le_of_ble_eq_true rfl⟩ dX3_canEnter_24 rfl (fun z3 hz3 => ?_)
      refine ev_if_eq (tgt := 34) hX dX3_canEnter_27 (by decide) ?_ ?_
      · refine ev_iconst hX dX3_canEnter_34 (v := 0) (by decide +kernel) ?_
        exact ev_iretz0 hX hr dX3_canEnter_35
      · refine ev_iconst hX dX3_canEnter_30 (v := 1) (by decide +kernel) ?_
        refine ev_goto (tgt := 35) hX dX3_canEnter_31 (by decide) ?_
        exact ev_iretz1 hX hr dX3_canEnter_35
def rm_X3_safeTargets : Room := { frames := 2, cells := 0, slots := 0, locals := 49 }
set_option maxRecDepth 20000 in
theorem in_X3_safeTargets_X3 : ∀ w ∈ u_ws RX3 TX3 6, w ∈ wsX3_safeTargets := by decide +kernel
set_option maxHeartbeats 4000000 in
set_option maxRecDepth 100000 in
theorem e_X3_safeTargets_122 (hX : mv_X p s m args meth c D vwCl cI cC tbX td A cX3_safeTargets 8 RX3 wsX3_safeTargets) (hr : meth.sig.returnType = (some .int)) (k30 : Int32 → Int32 → Int32 → Int32 → Int32 → Int32 → mvW → Option (Int32 × mvW)) (hk30 : ∀ (x1 : Int32) (x2 : Int32) (x3 : Int32) (x4 : Int32) (x5 : Int32) (x6 : Int32) (w : mvW), EV p l e (headSpec wsX3_safeTargets rm_X3_safeTargets).room s m args below meth c D vwCl cI cC td A (fun a => a = ad0) (mv_Qi below args s D vwCl cI cC shX ad0 A) 0 0 shX [some (.inr (.inl 4)), some (.inl x1), some (.inl x2), some (.inl x3), some (.inl x4), some (.inl x5), some (.inl x6), none] [] 30 w (k30 x1 x2 x3 x4 x5 x6 w)) (x1 : Int32) (x2 : Int32) (x3 : Int32) (x4 : Int32) (x5 : Int32) (x6 : Int32) (x7 : Int32) (w : mvW) : EV p l e (headSpec wsX3_safeTargets rm_X3_safeTargets).room s m args below meth c D vwCl cI cC td A (fun a => a = ad0) (mv_Qi below args s D vwCl cI cC shX ad0 A) 0 0 shX [some (.inr (.inl 4)), some (.inl x1), some (.inl x2), some (.inl x3), some (.inl x4), some (.inl x5), some (.inl x6), some (.inl x7)] [] 122 w (f_X3_safeTargets_122 k30 x1 x2 x3 x4 x5 x6 x7 w) := by
  rw [f_X3_safeTargets_122]
  refine ev_aload_n hX dX3_safeTargets_122 rfl ?_
  refine ev_getr (k := 0) hX (T := TX3) in_X3_safeTargets_X3 rfl rfl rfl (show Cond.fieldLink RX3 28 "FiveShogi$Rules" "position" "LFiveShogi$Position;" ∈ _ by decide +kernel) rfl dX3_safeTargets_123 ?_
  refine ev_iload hX dX3_safeTargets_126 rfl ?_
  refine ev_iload hX dX3_safeTargets_128 rfl ?_
  refine ev_callVv hX (k0 := 1) (As := [.inl x6, .inl x7]) (rm := rm_X2_place) (c_X2_place l D cI cC td x6 x7 w) (cwV 2 hX.ts gX3_safeTargets_X2_place rfl rfl rfl (by decide +kernel) ⟨Nat.le_of_ble_eq_true rfl, Nat.le_of_ble_eq_true rfl⟩) rfl rfl rfl rfl rfl rfl ⟨Nat.le_of_ble_eq_true rfl, Nat.le_of_ble_eq_true rfl⟩ dX3_safeTargets_130 rfl (fun z12 hz12 => ?_)
  refine ev_aload_n hX dX3_safeTargets_133 rfl ?_
  refine ev_getr (k := 0) hX (T := TX3) in_X3_safeTargets_X3 rfl rfl rfl (show Cond.fieldLink RX3 28 "FiveShogi$Rules" "position" "LFiveShogi$Position;" ∈ _ by decide +kernel) rfl dX3_safeTargets_134 ?_
  refine ev_iload_n hX dX3_safeTargets_137 rfl ?_
  refine ev_iload_n hX dX3_safeTargets_138 rfl ?_
  refine ev_callVv hX (k0 := 1) (As := [.inl x1, .inl x2]) (rm := rm_X2_place) (c_X2_place l D cI cC td x1 x2 z12) (cwV 2 hX.ts gX3_safeTargets_X2_place rfl rfl rfl (by decide +kernel) ⟨Nat.le_of_ble_eq_true rfl, Nat.le_of_ble_eq_true rfl⟩) rfl rfl rfl rfl rfl rfl ⟨Nat.le_of_ble_eq_true rfl, Nat.le_of_ble_eq_true rfl⟩ dX3_safeTargets_139 rfl (fun z13 hz13 => ?_)
  refine ev_iinc hX dX3_safeTargets_142 rfl (v := 1) (by decide +kernel) (L' := [some (.inr (.inl 4)), some (.inl x1), some (.inl x2), some (.inl x3), some (.inl x4), some (.inl x5), some (.inl (x6 + 1)), some (.inl x7)]) rfl ?_
  refine ev_goto (tgt := 30) hX dX3_safeTargets_145 (by decide) ?_
  refine ev_mask [true, true, true, true, true, true, true, false] (L' := [some (.inr (.inl 4)), some (.inl x1), some (.inl x2), some (.inl x3), some (.inl x4), some (.inl x5), some (.inl (x6 + 1)), none]) rfl rfl ?_
  exact hk30 x1 x2 x3 x4 x5 (x6 + 1) z13
set_option maxHeartbeats 4000000 in
set_option maxRecDepth 100000 in
theorem e_X3_safeTargets_30 (hX : mv_X p s m args meth c D vwCl cI cC tbX td A cX3_safeTargets 8 RX3 wsX3_safeTargets) (hr : meth.sig.returnType = (some .int)) : ∀ (n : Nat) (x1 : Int32) (x2 : Int32) (x3 : Int32) (x4 : Int32) (x5 : Int32) (x6 : Int32) (w : mvW), EV p l e (headSpec wsX3_safeTargets rm_X3_safeTargets).room s m args below meth c D vwCl cI cC td A (fun a => a = ad0) (mv_Qi below args s D vwCl cI cC shX ad0 A) 0 0 shX [some (.inr (.inl 4)), some (.inl x1), some (.inl x2), some (.inl x3), some (.inl x4), some (.inl x5), some (.inl x6), none] [] 30 w (f_X3_safeTargets_30 n x1 x2 x3 x4 x5 x6 w) := by
  intro n
  induction n with
  | zero => intro x1 x2 x3 x4 x5 x6 w; exact ev_none
  | succ n ih =>
    intro x1 x2 x3 x4 x5 x6 w
    rw [f_X3_safeTargets_30]
    refine ev_iload hX dX3_safeTargets_30 rfl ?_
    refine ev_bipush hX dX3_safeTargets_32 (v := 25) (by decide +kernel) ?_
    refine ev_icmp_ge (tgt := 148) hX dX3_safeTargets_34 (by decide) ?_ ?_
    · refine ev_iload hX dX3_safeTargets_148 rfl ?_
      exact ev_ireti hX hr dX3_safeTargets_150
    · refine ev_iload hX dX3_safeTargets_37 rfl ?_
      refine ev_iload hX dX3_safeTargets_39 rfl ?_
      refine ev_callNi hX (As := [.inl x4, .inl x6]) (rm := rm_X4_has) (c_X4_has l D cI cC td x4 x6 w) ⟨va_cnB (host := "FiveShogi") 2 hX.ts gX3_safeTargets_X4_has_n76 rfl rfl rfl (hX.sta.2.1 (_, 76, _, _) (List.mem_of_getElem? (i := 12) rfl)) (hX.ts _ (show Cond.initialized RX4 ∈ _ by decide +kernel)) (by decide +kernel) ⟨Nat.le_of_ble_eq_true rfl, Nat.le_of_ble_eq_true rfl⟩, hX.ts _ (show Cond.static yX4_has ∈ _ by decide +kernel), trivial⟩ rfl rfl rfl ⟨Nat.le_of_ble_eq_true rfl, Nat.le_of_ble_eq_true rfl⟩ dX3_safeTargets_41 rfl (fun z4 hz4 => ?_)
      refine ev_if_eq (tgt := 142) hX dX3_safeTargets_44 (by decide) ?_ ?_
      · refine ev_iinc hX dX3_safeTargets_142 rfl (v := 1) (by decide +kernel) (L' := [some (.inr (.inl 4)), some (.inl x1), some (.inl x2), some (.inl x3), some (.inl x4), some (.inl x5), some (.inl (x6 + 1)), none]) rfl ?_
        refine ev_goto (tgt := 30) hX dX3_safeTargets_145 (by decide) ?_
        refine ev_mask [true, true, true, true, true, true, true, false] (L' := [some (.inr (.inl 4)), some (.inl x1), some (.inl x2), some (.inl x3), some (.inl x4), some (.inl x5), some (.inl (x6 + 1)), none]) rfl rfl ?_
        exact ih x1 x2 x3 x4 x5 (x6 + 1) z4.2
      · refine ev_aload_n hX dX3_safeTargets_47 rfl ?_
        refine ev_iload_n hX dX3_safeTargets_48 rfl ?_
        refine ev_iload hX dX3_safeTargets_49 rfl ?_
        refine ev_callVi hX (k0 := 4) (As := [.inl x3, .inl x6]) (rm := rm_X3_canEnter) (c_X3_canEnter l D cI cC td x3 x6 z4.2) (cwV 2 hX.ts gX3_safeTargets_X3_canEnter rfl rfl rfl (by decide +kernel) ⟨Nat.le_of_ble_eq_true rfl, Nat.le_of_ble_eq_true rfl⟩) rfl rfl rfl rfl rfl rfl ⟨Nat.le_of_ble_eq_true rfl, Nat.le_of_ble_eq_true rfl⟩ dX3_safeTargets_51 rfl (fun z5 hz5 => ?_)
        refine ev_if_ne (tgt := 60) hX dX3_safeTargets_54 (by decide) ?_ ?_
        · refine ev_aload_n hX dX3_safeTargets_60 rfl ?_
          refine ev_getr (k := 0) hX (T := TX3) in_X3_safeTargets_X3 rfl rfl rfl (show Cond.fieldLink RX3 28 "FiveShogi$Rules" "position" "LFiveShogi$Position;" ∈ _ by decide +kernel) rfl dX3_safeTargets_61 ?_
          refine ev_iload hX dX3_safeTargets_64 rfl ?_
          refine ev_callVi hX (k0 := 1) (As := [.inl x6]) (rm := rm_X2_manOn) (c_X2_manOn l D cI cC td x6 z5.2) (cwV 1 hX.ts gX3_safeTargets_X2_manOn rfl rfl rfl (by decide +kernel) ⟨Nat.le_of_ble_eq_true rfl, Nat.le_of_ble_eq_true rfl⟩) rfl rfl rfl rfl rfl rfl ⟨Nat.le_of_ble_eq_true rfl, Nat.le_of_ble_eq_true rfl⟩ dX3_safeTargets_66 rfl (fun z6 hz6 => ?_)
          refine ev_istore hX dX3_safeTargets_69 rfl (L' := [some (.inr (.inl 4)), some (.inl x1), some (.inl x2), some (.inl x3), some (.inl x4), some (.inl x5), some (.inl x6), some (.inl z6.1)]) rfl ?_
          refine ev_aload_n hX dX3_safeTargets_71 rfl ?_
          refine ev_getr (k := 0) hX (T := TX3) in_X3_safeTargets_X3 rfl rfl rfl (show Cond.fieldLink RX3 28 "FiveShogi$Rules" "position" "LFiveShogi$Position;" ∈ _ by decide +kernel) rfl dX3_safeTargets_72 ?_
          refine ev_iload_n hX dX3_safeTargets_75 rfl ?_
          refine ev_bipush hX dX3_safeTargets_76 (v := 99) (by decide +kernel) ?_
          refine ev_callVv hX (k0 := 1) (As := [.inl x1, .inl 99]) (rm := rm_X2_place) (c_X2_place l D cI cC td x1 99 z6.2) (cwV 2 hX.ts gX3_safeTargets_X2_place rfl rfl rfl (by decide +kernel) ⟨Nat.le_of_ble_eq_true rfl, Nat.le_of_ble_eq_true rfl⟩) rfl rfl rfl rfl rfl rfl ⟨Nat.le_of_ble_eq_true rfl, Nat.le_of_ble_eq_true rfl⟩ dX3_safeTargets_78 rfl (fun z7 hz7 => ?_)
          refine ev_aload_n hX dX3_safeTargets_81 rfl ?_
          refine ev_getr (k := 0) hX (T := TX3) in_X3_safeTargets_X3 rfl rfl rfl (show Cond.fieldLink RX3 28 "FiveShogi$Rules" "position" "LFiveShogi$Position;" ∈ _ by decide +kernel) rfl dX3_safeTargets_82 ?_
          refine ev_iload hX dX3_safeTargets_85 rfl ?_
          refine ev_iload_n hX dX3_safeTargets_87 rfl ?_
          refine ev_callVv hX (k0 := 1) (As := [.inl x6, .inl x2]) (rm := rm_X2_place) (c_X2_place l D cI cC td x6 x2 z7) (cwV 2 hX.ts gX3_safeTargets_X2_place rfl rfl rfl (by decide +kernel) ⟨Nat.le_of_ble_eq_true rfl, Nat.le_of_ble_eq_true rfl⟩) rfl rfl rfl rfl rfl rfl ⟨Nat.le_of_ble_eq_true rfl, Nat.le_of_ble_eq_true rfl⟩ dX3_safeTargets_88 rfl (fun z8 hz8 => ?_)
          refine ev_aload_n hX dX3_safeTargets_91 rfl ?_
          refine ev_getr (k := 0) hX (T := TX3) in_X3_safeTargets_X3 rfl rfl rfl (show Cond.fieldLink RX3 28 "FiveShogi$Rules" "position" "LFiveShogi$Position;" ∈ _ by decide +kernel) rfl dX3_safeTargets_92 ?_
          refine ev_iconst hX dX3_safeTargets_95 (v := 1) (by decide +kernel) ?_
          refine ev_iload_n hX dX3_safeTargets_96 rfl ?_
          refine ev_isub hX dX3_safeTargets_97 ?_
          refine ev_aload_n hX dX3_safeTargets_98 rfl ?_
          refine ev_getr (k := 0) hX (T := TX3) in_X3_safeTargets_X3 rfl rfl rfl (show Cond.fieldLink RX3 28 "FiveShogi$Rules" "position" "LFiveShogi$Position;" ∈ _ by decide +kernel) rfl dX3_safeTargets_99 ?_
          refine ev_iload_n hX dX3_safeTargets_102 rfl ?_
          refine ev_callVi hX (k0 := 1) (As := [.inl x3]) (rm := rm_X2_kingOf) (c_X2_kingOf l D cI cC td x3 z8) (cwV 1 hX.ts gX3_safeTargets_X2_kingOf rfl rfl rfl (by decide +kernel) ⟨Nat.le_of_ble_eq_true rfl, Nat.le_of_ble_eq_true rfl⟩) rfl rfl rfl rfl rfl rfl ⟨Nat.le_of_ble_eq_true rfl, Nat.le_of_ble_eq_true rfl⟩ dX3_safeTargets_103 rfl (fun z9 hz9 => ?_)
          refine ev_callVi hX (k0 := 1) (As := [.inl (1 - x3), .inl z9.1]) (rm := rm_X2_countAttackers) (c_X2_countAttackers l D cI cC td (1 - x3) z9.1 z9.2) (cwV 2 hX.ts gX3_safeTargets_X2_countAttackers rfl rfl rfl (by decide +kernel) ⟨Nat.le_of_ble_eq_true rfl, Nat.le_of_ble_eq_true rfl⟩) rfl rfl rfl rfl rfl rfl ⟨Nat.le_of_ble_eq_true rfl, Nat.le_of_ble_eq_true rfl⟩ dX3_safeTargets_106 rfl (fun z10 hz10 => ?_)
          refine ev_if_ne (tgt := 122) hX dX3_safeTargets_109 (by decide) ?_ ?_
          · refine ev_mask [true, true, true, true, true, true, true, true] (L' := [some (.inr (.inl 4)), some (.inl x1), some (.inl x2), some (.inl x3), some (.inl x4), some (.inl x5), some (.inl x6), some (.inl z6.1)]) rfl rfl ?_
            exact e_X3_safeTargets_122 hX hr (fun x1' x2' x3' x4' x5' x6' w' => f_X3_safeTargets_30 n x1' x2' x3' x4' x5' x6' w') (fun x1' x2' x3' x4' x5' x6' w' => ih x1' x2' x3' x4' x5' x6' w') x1 x2 x3 x4 x5 x6 z6.1 z10.2
          · refine ev_iload hX dX3_safeTargets_112 rfl ?_
            refine ev_iload hX dX3_safeTargets_114 rfl ?_
            refine ev_callNi hX (As := [.inl x6]) (rm := rm_X4_bit) (c_X4_bit l D cI cC td x6 z10.2) ⟨va_cnB (host := "FiveShogi") 1 hX.ts gX3_safeTargets_X4_bit_n104 rfl rfl rfl (hX.sta.2.1 (_, 104, _, _) (List.mem_of_getElem? (i := 14) rfl)) (hX.ts _ (show Cond.initialized RX4 ∈ _ by decide +kernel)) (by decide +kernel) ⟨Nat.le_of_ble_eq_true rfl, Nat.le_of_ble_eq_true rfl⟩, hX.ts _ (show Cond.static yX4_bit ∈ _ by decide +kernel), trivial⟩ rfl rfl rfl ⟨Nat.le_of_ble_eq_true rfl, Nat.le_of_ble_eq_true rfl⟩ dX3_safeTargets_116 rfl (fun z11 hz11 => ?_)
            refine ev_ior hX dX3_safeTargets_119 ?_
            refine ev_istore hX dX3_safeTargets_120 rfl (L' := [some (.inr (.inl 4)), some (.inl x1), some (.inl x2), some (.inl x3), some (.inl x4), some (.inl (x5 ||| z11.1)), some (.inl x6), some (.inl z6.1)]) rfl ?_
            refine ev_mask [true, true, true, true, true, true, true, true] (L' := [some (.inr (.inl 4)), some (.inl x1), some (.inl x2), some (.inl x3), some (.inl x4), some (.inl (x5 ||| z11.1)), some (.inl x6), some (.inl z6.1)]) rfl rfl ?_
            exact e_X3_safeTargets_122 hX hr (fun x1' x2' x3' x4' x5' x6' w' => f_X3_safeTargets_30 n x1' x2' x3' x4' x5' x6' w') (fun x1' x2' x3' x4' x5' x6' w' => ih x1' x2' x3' x4' x5' x6' w') x1 x2 x3 x4 (x5 ||| z11.1) x6 z6.1 z11.2
        · refine ev_goto (tgt := 142) hX dX3_safeTargets_57 (by decide) ?_
          refine ev_iinc hX dX3_safeTargets_142 rfl (v := 1) (by decide +kernel) (L' := [some (.inr (.inl 4)), some (.inl x1), some (.inl x2), some (.inl x3), some (.inl x4), some (.inl x5), some (.inl (x6 + 1)), none]) rfl ?_
          refine ev_goto (tgt := 30) hX dX3_safeTargets_145 (by decide) ?_
          refine ev_mask [true, true, true, true, true, true, true, false] (L' := [some (.inr (.inl 4)), some (.inl x1), some (.inl x2), some (.inl x3), some (.inl x4), some (.inl x5), some (.inl (x6 + 1)), none]) rfl rfl ?_
          exact ih x1 x2 x3 x4 x5 (x6 + 1) z5.2
set_option maxHeartbeats 4000000 in
set_option maxRecDepth 100000 in
theorem c_X3_safeTargets (l : Launch) (D : va_G) (cI cC : ClassId) (td : Nat → Option Nat) (a1 : Int32) (w : mvW) : ∀ z, f_X3_safeTargets a1 w = some z → mv_Ci l D vwCl cI cC tbX td yX3_safeTargets wsX3_safeTargets rm_X3_safeTargets shX w [.inr (.inl 4), .inl a1] z := by
  refine mv_starti (own := RX3) rfl (by decide) rfl rfl (L0 := [some (.inr (.inl 4)), some (.inl a1), none, none, none, none, none, none]) rfl (fun p e s m args below meth c A ad0 hX hr => ?_)
  rw [f_X3_safeTargets]
  refine ev_aload_n hX dX3_safeTargets_0 rfl ?_
  refine ev_getr (k := 0) hX (T := TX3) in_X3_safeTargets_X3 rfl rfl rfl (show Cond.fieldLink RX3 28 "FiveShogi$Rules" "position" "LFiveShogi$Position;" ∈ _ by decide +kernel) rfl dX3_safeTargets_1 ?_
  refine ev_iload_n hX dX3_safeTargets_4 rfl ?_
  refine ev_callVi hX (k0 := 1) (As := [.inl a1]) (rm := rm_X2_manOn) (c_X2_manOn l D cI cC td a1 w) (cwV 1 hX.ts gX3_safeTargets_X2_manOn rfl rfl rfl (by decide +kernel) ⟨Nat.le_of_ble_eq_true rfl, Nat.le_of_ble_eq_true rfl⟩) rfl rfl rfl rfl rfl rfl ⟨Nat.le_of_ble_eq_true rfl, Nat.le_of_ble_eq_true rfl⟩ dX3_safeTargets_5 rfl (fun z1 hz1 => ?_)
  refine ev_istore_n hX dX3_safeTargets_8 rfl (L' := [some (.inr (.inl 4)), some (.inl a1), some (.inl z1.1), none, none, none, none, none]) rfl ?_
  refine ev_iload_n hX dX3_safeTargets_9 rfl ?_
  refine ev_callNi hX (As := [.inl z1.1]) (rm := rm_X4_sideOf) (c_X4_sideOf l D cI cC td z1.1 z1.2) ⟨va_cnB (host := "FiveShogi") 1 hX.ts gX3_safeTargets_X4_sideOf_n70 rfl rfl rfl (hX.sta.2.1 (_, 70, _, _) (List.mem_of_getElem? (i := 17) rfl)) (hX.ts _ (show Cond.initialized RX4 ∈ _ by decide +kernel)) (by decide +kernel) ⟨Nat.le_of_ble_eq_true rfl, Nat.le_of_ble_eq_true rfl⟩, hX.ts _ (show Cond.static yX4_sideOf ∈ _ by decide +kernel), trivial⟩ rfl rfl rfl ⟨Nat.le_of_ble_eq_true rfl, Nat.le_of_ble_eq_true rfl⟩ dX3_safeTargets_10 rfl (fun z2 hz2 => ?_)
  refine ev_istore_n hX dX3_safeTargets_13 rfl (L' := [some (.inr (.inl 4)), some (.inl a1), some (.inl z1.1), some (.inl z2.1), none, none, none, none]) rfl ?_
  refine ev_aload_n hX dX3_safeTargets_14 rfl ?_
  refine ev_getr (k := 0) hX (T := TX3) in_X3_safeTargets_X3 rfl rfl rfl (show Cond.fieldLink RX3 28 "FiveShogi$Rules" "position" "LFiveShogi$Position;" ∈ _ by decide +kernel) rfl dX3_safeTargets_15 ?_
  refine ev_iload_n hX dX3_safeTargets_18 rfl ?_
  refine ev_callVi hX (k0 := 1) (As := [.inl a1]) (rm := rm_X2_attackedFrom) (c_X2_attackedFrom l D cI cC td a1 z2.2) (cwV 1 hX.ts gX3_safeTargets_X2_attackedFrom rfl rfl rfl (by decide +kernel) ⟨Nat.le_of_ble_eq_true rfl, Nat.le_of_ble_eq_true rfl⟩) rfl rfl rfl rfl rfl rfl ⟨Nat.le_of_ble_eq_true rfl, Nat.le_of_ble_eq_true rfl⟩ dX3_safeTargets_19 rfl (fun z3 hz3 => ?_)
  refine ev_istore hX dX3_safeTargets_22 rfl (L' := [some (.inr (.inl 4)), some (.inl a1), some (.inl z1.1), some (.inl z2.1), some (.inl z3.1), none, none, none]) rfl ?_
  refine ev_iconst hX dX3_safeTargets_24 (v := 0) (by decide +kernel) ?_
  refine ev_istore hX dX3_safeTargets_25 rfl (L' := [some (.inr (.inl 4)), some (.inl a1), some (.inl z1.1), some (.inl z2.1), some (.inl z3.1), some (.inl 0), none, none]) rfl ?_
  refine ev_iconst hX dX3_safeTargets_27 (v := 0) (by decide +kernel) ?_
  refine ev_istore hX dX3_safeTargets_28 rfl (L' := [some (.inr (.inl 4)), some (.inl a1), some (.inl z1.1), some (.inl z2.1), some (.inl z3.1), some (.inl 0), some (.inl 0), none]) rfl ?_
  refine ev_mask [true, true, true, true, true, true, true, false] (L' := [some (.inr (.inl 4)), some (.inl a1), some (.inl z1.1), some (.inl z2.1), some (.inl z3.1), some (.inl 0), some (.inl 0), none]) rfl rfl ?_
  exact e_X3_safeTargets_30 hX hr 4096 a1 z1.1 z2.1 z3.1 0 0 z3.2
def rm_X3_canReply : Room := { frames := 3, cells := 0, slots := 0, locals := 76 }
set_option maxRecDepth 20000 in
theorem in_X3_canReply_X3 : ∀ w ∈ u_ws RX3 TX3 6, w ∈ wsX3_canReply := by decide +kernel
set_option maxHeartbeats 4000000 in
set_option maxRecDepth 100000 in
theorem e_X3_canReply_54 (hX : mv_X p s m args meth c D vwCl cI cC tbX td A cX3_canReply 4 RX3 wsX3_canReply) (hr : meth.sig.returnType = (some .boolean)) : ∀ (n : Nat) (x2 : Int32) (x3 : Int32) (w : mvW), EV p l e (headSpec wsX3_canReply rm_X3_canReply).room s m args below meth c D vwCl cI cC td A (fun a => a = ad0) (mv_Qi below args s D vwCl cI cC shX ad0 A) 0 0 shX [some (.inr (.inl 4)), none, some (.inl x2), some (.inl x3)] [] 54 w (f_X3_canReply_54 n x2 x3 w) := by
  intro n
  induction n with
  | zero => intro x2 x3 w; exact ev_none
  | succ n ih =>
    intro x2 x3 w
    rw [f_X3_canReply_54]
    refine ev_iload_n hX dX3_canReply_54 rfl ?_
    refine ev_iconst hX dX3_canReply_55 (v := 5) (by decide +kernel) ?_
    refine ev_icmp_gt (tgt := 76) hX dX3_canReply_56 (by decide) ?_ ?_
    · refine ev_iconst hX dX3_canReply_76 (v := 0) (by decide +kernel) ?_
      exact ev_iretz0 hX hr dX3_canReply_77
    · refine ev_aload_n hX dX3_canReply_59 rfl ?_
      refine ev_iload_n hX dX3_canReply_60 rfl ?_
      refine ev_iload_n hX dX3_canReply_61 rfl ?_
      refine ev_callVi hX (k0 := 4) (As := [.inl x3, .inl x2]) (rm := rm_X3_openToDrops) (c_X3_openToDrops l D cI cC td x3 x2 w) (cwV 2 hX.ts gX3_canReply_X3_openToDrops rfl rfl rfl (by decide +kernel) ⟨Nat.le_of_ble_eq_true rfl, Nat.le_of_ble_eq_true rfl⟩) rfl rfl rfl rfl rfl rfl ⟨Nat.le_of_ble_eq_true rfl, Nat.le_of_ble_eq_true rfl⟩ dX3_canReply_62 rfl (fun z6 hz6 => ?_)
      refine ev_if_eq (tgt := 70) hX dX3_canReply_65 (by decide) ?_ ?_
      · refine ev_iinc hX dX3_canReply_70 rfl (v := 1) (by decide +kernel) (L' := [some (.inr (.inl 4)), none, some (.inl x2), some (.inl (x3 + 1))]) rfl ?_
        refine ev_goto (tgt := 54) hX dX3_canReply_73 (by decide) ?_
        refine ev_mask [true, false, true, true] (L' := [some (.inr (.inl 4)), none, some (.inl x2), some (.inl (x3 + 1))]) rfl rfl ?_
        exact ih x2 (x3 + 1) z6.2
      · refine ev_iconst hX dX3_canReply_68 (v := 1) (by decide +kernel) ?_
        exact ev_iretz1 hX hr dX3_canReply_69
set_option maxHeartbeats 4000000 in
set_option maxRecDepth 100000 in
theorem e_X3_canReply_10 (hX : mv_X p s m args meth c D vwCl cI cC tbX td A cX3_canReply 4 RX3 wsX3_canReply) (hr : meth.sig.returnType = (some .boolean)) : ∀ (n : Nat) (x1 : Int32) (x2 : Int32) (w : mvW), EV p l e (headSpec wsX3_canReply rm_X3_canReply).room s m args below meth c D vwCl cI cC td A (fun a => a = ad0) (mv_Qi below args s D vwCl cI cC shX ad0 A) 0 0 shX [some (.inr (.inl 4)), some (.inl x1), some (.inl x2), none] [] 10 w (f_X3_canReply_10 n x1 x2 w) := by
  intro n
  induction n with
  | zero => intro x1 x2 w; exact ev_none
  | succ n ih =>
    intro x1 x2 w
    rw [f_X3_canReply_10]
    refine ev_iload_n hX dX3_canReply_10 rfl ?_
    refine ev_bipush hX dX3_canReply_11 (v := 25) (by decide +kernel) ?_
    refine ev_icmp_ge (tgt := 47) hX dX3_canReply_13 (by decide) ?_ ?_
    · refine ev_aload_n hX dX3_canReply_47 rfl ?_
      refine ev_callVi hX (k0 := 4) (As := []) (rm := rm_X3_safeDrops) (c_X3_safeDrops l D cI cC td w) (cwV 0 hX.ts gX3_canReply_X3_safeDrops rfl rfl rfl (by decide +kernel) ⟨Nat.le_of_ble_eq_true rfl, Nat.le_of_ble_eq_true rfl⟩) rfl rfl rfl rfl rfl rfl ⟨Nat.le_of_ble_eq_true rfl, Nat.le_of_ble_eq_true rfl⟩ dX3_canReply_48 rfl (fun z2 hz2 => ?_)
      refine ev_istore_n hX dX3_canReply_51 rfl (L' := [some (.inr (.inl 4)), some (.inl x1), some (.inl z2.1), none]) rfl ?_
      refine ev_iconst hX dX3_canReply_52 (v := 1) (by decide +kernel) ?_
      refine ev_istore_n hX dX3_canReply_53 rfl (L' := [some (.inr (.inl 4)), some (.inl x1), some (.inl z2.1), some (.inl 1)]) rfl ?_
      refine ev_mask [true, false, true, true] (L' := [some (.inr (.inl 4)), none, some (.inl z2.1), some (.inl 1)]) rfl rfl ?_
      exact e_X3_canReply_54 hX hr 4096 z2.1 1 z2.2
    · refine ev_aload_n hX dX3_canReply_16 rfl ?_
      refine ev_getr (k := 0) hX (T := TX3) in_X3_canReply_X3 rfl rfl rfl (show Cond.fieldLink RX3 28 "FiveShogi$Rules" "position" "LFiveShogi$Position;" ∈ _ by decide +kernel) rfl dX3_canReply_17 ?_
      refine ev_iload_n hX dX3_canReply_20 rfl ?_
      refine ev_callVi hX (k0 := 1) (As := [.inl x2]) (rm := rm_X2_manOn) (c_X2_manOn l D cI cC td x2 w) (cwV 1 hX.ts gX3_canReply_X2_manOn rfl rfl rfl (by decide +kernel) ⟨Nat.le_of_ble_eq_true rfl, Nat.le_of_ble_eq_true rfl⟩) rfl rfl rfl rfl rfl rfl ⟨Nat.le_of_ble_eq_true rfl, Nat.le_of_ble_eq_true rfl⟩ dX3_canReply_21 rfl (fun z3 hz3 => ?_)
      refine ev_callNi hX (As := [.inl z3.1]) (rm := rm_X4_sideOf) (c_X4_sideOf l D cI cC td z3.1 z3.2) ⟨va_cnB (host := "FiveShogi") 1 hX.ts gX3_canReply_X4_sideOf_n70 rfl rfl rfl (hX.sta.2.1 (_, 70, _, _) (List.mem_of_getElem? (i := 17) rfl)) (hX.ts _ (show Cond.initialized RX4 ∈ _ by decide +kernel)) (by decide +kernel) ⟨Nat.le_of_ble_eq_true rfl, Nat.le_of_ble_eq_true rfl⟩, hX.ts _ (show Cond.static yX4_sideOf ∈ _ by decide +kernel), trivial⟩ rfl rfl rfl ⟨Nat.le_of_ble_eq_true rfl, Nat.le_of_ble_eq_true rfl⟩ dX3_canReply_24 rfl (fun z4 hz4 => ?_)
      refine ev_iload_n hX dX3_canReply_27 rfl ?_
      refine ev_icmp_ne (tgt := 41) hX dX3_canReply_28 (by decide) ?_ ?_
      · refine ev_iinc hX dX3_canReply_41 rfl (v := 1) (by decide +kernel) (L' := [some (.inr (.inl 4)), some (.inl x1), some (.inl (x2 + 1)), none]) rfl ?_
        refine ev_goto (tgt := 10) hX dX3_canReply_44 (by decide) ?_
        refine ev_mask [true, true, true, false] (L' := [some (.inr (.inl 4)), some (.inl x1), some (.inl (x2 + 1)), none]) rfl rfl ?_
        exact ih x1 (x2 + 1) z4.2
      · refine ev_aload_n hX dX3_canReply_31 rfl ?_
        refine ev_iload_n hX dX3_canReply_32 rfl ?_
        refine ev_callVi hX (k0 := 4) (As := [.inl x2]) (rm := rm_X3_safeTargets) (c_X3_safeTargets l D cI cC td x2 z4.2) (cwV 1 hX.ts gX3_canReply_X3_safeTargets rfl rfl rfl (by decide +kernel) ⟨Nat.le_of_ble_eq_true rfl, Nat.le_of_ble_eq_true rfl⟩) rfl rfl rfl rfl rfl rfl ⟨Nat.le_of_ble_eq_true rfl, Nat.le_of_ble_eq_true rfl⟩ dX3_canReply_33 rfl (fun z5 hz5 => ?_)
        refine ev_if_eq (tgt := 41) hX dX3_canReply_36 (by decide) ?_ ?_
        · refine ev_iinc hX dX3_canReply_41 rfl (v := 1) (by decide +kernel) (L' := [some (.inr (.inl 4)), some (.inl x1), some (.inl (x2 + 1)), none]) rfl ?_
          refine ev_goto (tgt := 10) hX dX3_canReply_44 (by decide) ?_
          refine ev_mask [true, true, true, false] (L' := [some (.inr (.inl 4)), some (.inl x1), some (.inl (x2 + 1)), none]) rfl rfl ?_
          exact ih x1 (x2 + 1) z5.2
        · refine ev_iconst hX dX3_canReply_39 (v := 1) (by decide +kernel) ?_
          exact ev_iretz1 hX hr dX3_canReply_40
set_option maxHeartbeats 4000000 in
set_option maxRecDepth 100000 in
theorem c_X3_canReply (l : Launch) (D : va_G) (cI cC : ClassId) (td : Nat → Option Nat) (w : mvW) : ∀ z, f_X3_canReply w = some z → mv_Ci l D vwCl cI cC tbX td yX3_canReply wsX3_canReply rm_X3_canReply shX w [.inr (.inl 4)] z := by
  refine mv_starti (own := RX3) rfl (by decide) rfl rfl (L0 := [some (.inr (.inl 4)), none, none, none]) rfl (fun p e s m args below meth c A ad0 hX hr => ?_)
  rw [f_X3_canReply]
  refine ev_aload_n hX dX3_canReply_0 rfl ?_
  refine ev_getr (k := 0) hX (T := TX3) in_X3_canReply_X3 rfl rfl rfl (show Cond.fieldLink RX3 28 "FiveShogi$Rules" "position" "LFiveShogi$Position;" ∈ _ by decide +kernel) rfl dX3_canReply_1 ?_
  refine ev_callVi hX (k0 := 1) (As := []) (rm := rm_X2_sideToPlay) (c_X2_sideToPlay l D cI cC td w) (cwV 0 hX.ts gX3_canReply_X2_sideToPlay rfl rfl rfl (by decide +kernel) ⟨Nat.le_of_ble_eq_true rfl, Nat.le_of_ble_eq_true rfl⟩) rfl rfl rfl rfl rfl rfl ⟨Nat.le_of_ble_eq_true rfl, Nat.le_of_ble_eq_true rfl⟩ dX3_canReply_4 rfl (fun z1 hz1 => ?_)
  refine ev_istore_n hX dX3_canReply_7 rfl (L' := [some (.inr (.inl 4)), some (.inl z1.1), none, none]) rfl ?_
  refine ev_iconst hX dX3_canReply_8 (v := 0) (by decide +kernel) ?_
  refine ev_istore_n hX dX3_canReply_9 rfl (L' := [some (.inr (.inl 4)), some (.inl z1.1), some (.inl 0), none]) rfl ?_
  refine ev_mask [true, true, true, false] (L' := [some (.inr (.inl 4)), some (.inl z1.1), some (.inl 0), none]) rfl rfl ?_
  exact e_X3_canReply_10 hX hr 4096 z1.1 0 z1.2
def rm_X3_withoutMates : Room := { frames := 4, cells := 0, slots := 0, locals := 99 }
set_option maxRecDepth 20000 in
theorem in_X3_withoutMates_X3 : ∀ w ∈ u_ws RX3 TX3 6, w ∈ wsX3_withoutMates := by decide +kernel
set_option maxHeartbeats 4000000 in
set_option maxRecDepth 100000 in
theorem e_X3_withoutMates_4 (hX : mv_X p s m args meth c D vwCl cI cC tbX td A cX3_withoutMates 6 RX3 wsX3_withoutMates) (hr : meth.sig.returnType = (some .int)) : ∀ (n : Nat) (x1 : Int32) (x2 : Int32) (x3 : Int32) (w : mvW), EV p l e (headSpec wsX3_withoutMates rm_X3_withoutMates).room s m args below meth c D vwCl cI cC td A (fun a => a = ad0) (mv_Qi below args s D vwCl cI cC shX ad0 A) 0 0 shX [some (.inr (.inl 4)), some (.inl x1), some (.inl x2), some (.inl x3), none, none] [] 4 w (f_X3_withoutMates_4 n x1 x2 x3 w) := by
  intro n
  induction n with
  | zero => intro x1 x2 x3 w; exact ev_none
  | succ n ih =>
    intro x1 x2 x3 w
    rw [f_X3_withoutMates_4]
    refine ev_iload_n hX dX3_withoutMates_4 rfl ?_
    refine ev_bipush hX dX3_withoutMates_5 (v := 25) (by decide +kernel) ?_
    refine ev_icmp_ge (tgt := 79) hX dX3_withoutMates_7 (by decide) ?_ ?_
    · refine ev_iload_n hX dX3_withoutMates_79 rfl ?_
      exact ev_ireti hX hr dX3_withoutMates_80
    · refine ev_iload_n hX dX3_withoutMates_10 rfl ?_
      refine ev_iload_n hX dX3_withoutMates_11 rfl ?_
      refine ev_callNi hX (As := [.inl x1, .inl x3]) (rm := rm_X4_has) (c_X4_has l D cI cC td x1 x3 w) ⟨va_cnB (host := "FiveShogi") 2 hX.ts gX3_withoutMates_X4_has_n76 rfl rfl rfl (hX.sta.2.1 (_, 76, _, _) (List.mem_of_getElem? (i := 12) rfl)) (hX.ts _ (show Cond.initialized RX4 ∈ _ by decide +kernel)) (by decide +kernel) ⟨Nat.le_of_ble_eq_true rfl, Nat.le_of_ble_eq_true rfl⟩, hX.ts _ (show Cond.static yX4_has ∈ _ by decide +kernel), trivial⟩ rfl rfl rfl ⟨Nat.le_of_ble_eq_true rfl, Nat.le_of_ble_eq_true rfl⟩ dX3_withoutMates_12 rfl (fun z1 hz1 => ?_)
      refine ev_if_ne (tgt := 21) hX dX3_withoutMates_15 (by decide) ?_ ?_
      · refine ev_iconst hX dX3_withoutMates_21 (v := 5) (by decide +kernel) ?_
        refine ev_iload_n hX dX3_withoutMates_22 rfl ?_
        refine ev_callNi hX (As := [.inl 5, .inl x3]) (rm := rm_X4_dropNumber) (c_X4_dropNumber l D cI cC td 5 x3 z1.2) ⟨va_cnB (host := "FiveShogi") 2 hX.ts gX3_withoutMates_X4_dropNumber_n117 rfl rfl rfl (hX.sta.2.1 (_, 117, _, _) (List.mem_of_getElem? (i := 15) rfl)) (hX.ts _ (show Cond.initialized RX4 ∈ _ by decide +kernel)) (by decide +kernel) ⟨Nat.le_of_ble_eq_true rfl, Nat.le_of_ble_eq_true rfl⟩, hX.ts _ (show Cond.static yX4_dropNumber ∈ _ by decide +kernel), trivial⟩ rfl rfl rfl ⟨Nat.le_of_ble_eq_true rfl, Nat.le_of_ble_eq_true rfl⟩ dX3_withoutMates_23 rfl (fun z2 hz2 => ?_)
        refine ev_istore hX dX3_withoutMates_26 rfl (L' := [some (.inr (.inl 4)), some (.inl x1), some (.inl x2), some (.inl x3), some (.inl z2.1), none]) rfl ?_
        refine ev_aload_n hX dX3_withoutMates_28 rfl ?_
        refine ev_getr (k := 0) hX (T := TX3) in_X3_withoutMates_X3 rfl rfl rfl (show Cond.fieldLink RX3 28 "FiveShogi$Rules" "position" "LFiveShogi$Position;" ∈ _ by decide +kernel) rfl dX3_withoutMates_29 ?_
        refine ev_iload hX dX3_withoutMates_32 rfl ?_
        refine ev_callVi hX (k0 := 1) (As := [.inl z2.1]) (rm := rm_X2_apply) (c_X2_apply l D cI cC td z2.1 z2.2) (cwV 1 hX.ts gX3_withoutMates_X2_apply rfl rfl rfl (by decide +kernel) ⟨Nat.le_of_ble_eq_true rfl, Nat.le_of_ble_eq_true rfl⟩) rfl rfl rfl rfl rfl rfl ⟨Nat.le_of_ble_eq_true rfl, Nat.le_of_ble_eq_true rfl⟩ dX3_withoutMates_34 rfl (fun z3 hz3 => ?_)
        refine ev_istore hX dX3_withoutMates_37 rfl (L' := [some (.inr (.inl 4)), some (.inl x1), some (.inl x2), some (.inl x3), some (.inl z2.1), some (.inl z3.1)]) rfl ?_
        refine ev_aload_n hX dX3_withoutMates_39 rfl ?_
        refine ev_callVi hX (k0 := 4) (As := []) (rm := rm_X3_isInCheck) (c_X3_isInCheck l D cI cC td z3.2) (cwV 0 hX.ts gX3_withoutMates_X3_isInCheck rfl rfl rfl (by decide +kernel) ⟨Nat.le_of_ble_eq_true rfl, Nat.le_of_ble_eq_true rfl⟩) rfl rfl rfl rfl rfl rfl ⟨Nat.le_of_ble_eq_true rfl, Nat.le_of_ble_eq_true rfl⟩ dX3_withoutMates_40 rfl (fun z4 hz4 => ?_)
        refine ev_if_eq (tgt := 62) hX dX3_withoutMates_43 (by decide) ?_ ?_
        · refine ev_aload_n hX dX3_withoutMates_62 rfl ?_
          refine ev_getr (k := 0) hX (T := TX3) in_X3_withoutMates_X3 rfl rfl rfl (show Cond.fieldLink RX3 28 "FiveShogi$Rules" "position" "LFiveShogi$Position;" ∈ _ by decide +kernel) rfl dX3_withoutMates_63 ?_
          refine ev_iload hX dX3_withoutMates_66 rfl ?_
          refine ev_iload hX dX3_withoutMates_68 rfl ?_
          refine ev_callVv hX (k0 := 1) (As := [.inl z2.1, .inl z3.1]) (rm := rm_X2_takeBack) (c_X2_takeBack l D cI cC td z2.1 z3.1 z4.2) (cwV 2 hX.ts gX3_withoutMates_X2_takeBack rfl rfl rfl (by decide +kernel) ⟨Nat.le_of_ble_eq_true rfl, Nat.le_of_ble_eq_true rfl⟩) rfl rfl rfl rfl rfl rfl ⟨Nat.le_of_ble_eq_true rfl, Nat.le_of_ble_eq_true rfl⟩ dX3_withoutMates_70 rfl (fun z5 hz5 => ?_)
          refine ev_iinc hX dX3_withoutMates_73 rfl (v := 1) (by decide +kernel) (L' := [some (.inr (.inl 4)), some (.inl x1), some (.inl x2), some (.inl (x3 + 1)), some (.inl z2.1), some (.inl z3.1)]) rfl ?_
          refine ev_goto (tgt := 4) hX dX3_withoutMates_76 (by decide) ?_
          refine ev_mask [true, true, true, true, false, false] (L' := [some (.inr (.inl 4)), some (.inl x1), some (.inl x2), some (.inl (x3 + 1)), none, none]) rfl rfl ?_
          exact ih x1 x2 (x3 + 1) z5
        · refine ev_aload_n hX dX3_withoutMates_46 rfl ?_
          refine ev_callVi hX (k0 := 4) (As := []) (rm := rm_X3_canReply) (c_X3_canReply l D cI cC td z4.2) (cwV 0 hX.ts gX3_withoutMates_X3_canReply rfl rfl rfl (by decide +kernel) ⟨Nat.le_of_ble_eq_true rfl, Nat.le_of_ble_eq_true rfl⟩) rfl rfl rfl rfl rfl rfl ⟨Nat.le_of_ble_eq_true rfl, Nat.le_of_ble_eq_true rfl⟩ dX3_withoutMates_47 rfl (fun z6 hz6 => ?_)
          refine ev_if_ne (tgt := 62) hX dX3_withoutMates_50 (by decide) ?_ ?_
          · refine ev_aload_n hX dX3_withoutMates_62 rfl ?_
            refine ev_getr (k := 0) hX (T := TX3) in_X3_withoutMates_X3 rfl rfl rfl (show Cond.fieldLink RX3 28 "FiveShogi$Rules" "position" "LFiveShogi$Position;" ∈ _ by decide +kernel) rfl dX3_withoutMates_63 ?_
            refine ev_iload hX dX3_withoutMates_66 rfl ?_
            refine ev_iload hX dX3_withoutMates_68 rfl ?_
            refine ev_callVv hX (k0 := 1) (As := [.inl z2.1, .inl z3.1]) (rm := rm_X2_takeBack) (c_X2_takeBack l D cI cC td z2.1 z3.1 z6.2) (cwV 2 hX.ts gX3_withoutMates_X2_takeBack rfl rfl rfl (by decide +kernel) ⟨Nat.le_of_ble_eq_true rfl, Nat.le_of_ble_eq_true rfl⟩) rfl rfl rfl rfl rfl rfl ⟨Nat.le_of_ble_eq_true rfl, Nat.le_of_ble_eq_true rfl⟩ dX3_withoutMates_70 rfl (fun z7 hz7 => ?_)
            refine ev_iinc hX dX3_withoutMates_73 rfl (v := 1) (by decide +kernel) (L' := [some (.inr (.inl 4)), some (.inl x1), some (.inl x2), some (.inl (x3 + 1)), some (.inl z2.1), some (.inl z3.1)]) rfl ?_
            refine ev_goto (tgt := 4) hX dX3_withoutMates_76 (by decide) ?_
            refine ev_mask [true, true, true, true, false, false] (L' := [some (.inr (.inl 4)), some (.inl x1), some (.inl x2), some (.inl (x3 + 1)), none, none]) rfl rfl ?_
            exact ih x1 x2 (x3 + 1) z7
          · refine ev_iload_n hX dX3_withoutMates_53 rfl ?_
            refine ev_iload_n hX dX3_withoutMates_54 rfl ?_
            refine ev_callNi hX (As := [.inl x3]) (rm := rm_X4_bit) (c_X4_bit l D cI cC td x3 z6.2) ⟨va_cnB (host := "FiveShogi") 1 hX.ts gX3_withoutMates_X4_bit_n104 rfl rfl rfl (hX.sta.2.1 (_, 104, _, _) (List.mem_of_getElem? (i := 14) rfl)) (hX.ts _ (show Cond.initialized RX4 ∈ _ by decide +kernel)) (by decide +kernel) ⟨Nat.le_of_ble_eq_true rfl, Nat.le_of_ble_eq_true rfl⟩, hX.ts _ (show Cond.static yX4_bit ∈ _ by decide +kernel), trivial⟩ rfl rfl rfl ⟨Nat.le_of_ble_eq_true rfl, Nat.le_of_ble_eq_true rfl⟩ dX3_withoutMates_55 rfl (fun z8 hz8 => ?_)
            refine ev_iconst hX dX3_withoutMates_58 (v := (-1)) (by decide +kernel) ?_
            refine ev_ixor hX dX3_withoutMates_59 ?_
            refine ev_iand hX dX3_withoutMates_60 ?_
            refine ev_istore_n hX dX3_withoutMates_61 rfl (L' := [some (.inr (.inl 4)), some (.inl x1), some (.inl (x2 &&& (z8.1 ^^^ (-1)))), some (.inl x3), some (.inl z2.1), some (.inl z3.1)]) rfl ?_
            refine ev_aload_n hX dX3_withoutMates_62 rfl ?_
            refine ev_getr (k := 0) hX (T := TX3) in_X3_withoutMates_X3 rfl rfl rfl (show Cond.fieldLink RX3 28 "FiveShogi$Rules" "position" "LFiveShogi$Position;" ∈ _ by decide +kernel) rfl dX3_withoutMates_63 ?_
            refine ev_iload hX dX3_withoutMates_66 rfl ?_
            refine ev_iload hX dX3_withoutMates_68 rfl ?_
            refine ev_callVv hX (k0 := 1) (As := [.inl z2.1, .inl z3.1]) (rm := rm_X2_takeBack) (c_X2_takeBack l D cI cC td z2.1 z3.1 z8.2) (cwV 2 hX.ts gX3_withoutMates_X2_takeBack rfl rfl rfl (by decide +kernel) ⟨Nat.le_of_ble_eq_true rfl, Nat.le_of_ble_eq_true rfl⟩) rfl rfl rfl rfl rfl rfl ⟨Nat.le_of_ble_eq_true rfl, Nat.le_of_ble_eq_true rfl⟩ dX3_withoutMates_70 rfl (fun z9 hz9 => ?_)
            refine ev_iinc hX dX3_withoutMates_73 rfl (v := 1) (by decide +kernel) (L' := [some (.inr (.inl 4)), some (.inl x1), some (.inl (x2 &&& (z8.1 ^^^ (-1)))), some (.inl (x3 + 1)), some (.inl z2.1), some (.inl z3.1)]) rfl ?_
            refine ev_goto (tgt := 4) hX dX3_withoutMates_76 (by decide) ?_
            refine ev_mask [true, true, true, true, false, false] (L' := [some (.inr (.inl 4)), some (.inl x1), some (.inl (x2 &&& (z8.1 ^^^ (-1)))), some (.inl (x3 + 1)), none, none]) rfl rfl ?_
            exact ih x1 (x2 &&& (z8.1 ^^^ (-1))) (x3 + 1) z9
      · refine ev_goto (tgt := 73) hX dX3_withoutMates_18 (by decide) ?_
        refine ev_iinc hX dX3_withoutMates_73 rfl (v := 1) (by decide +kernel) (L' := [some (.inr (.inl 4)), some (.inl x1), some (.inl x2), some (.inl (x3 + 1)), none, none]) rfl ?_
        refine ev_goto (tgt := 4) hX dX3_withoutMates_76 (by decide) ?_
        refine ev_mask [true, true, true, true, false, false] (L' := [some (.inr (.inl 4)), some (.inl x1), some (.inl x2), some (.inl (x3 + 1)), none, none]) rfl rfl ?_
        exact ih x1 x2 (x3 + 1) z1.2
set_option maxHeartbeats 4000000 in
set_option maxRecDepth 100000 in
theorem c_X3_withoutMates (l : Launch) (D : va_G) (cI cC : ClassId) (td : Nat → Option Nat) (a1 : Int32) (w : mvW) : ∀ z, f_X3_withoutMates a1 w = some z → mv_Ci l D vwCl cI cC tbX td yX3_withoutMates wsX3_withoutMates rm_X3_withoutMates shX w [.inr (.inl 4), .inl a1] z := by
  refine mv_starti (own := RX3) rfl (by decide) rfl rfl (L0 := [some (.inr (.inl 4)), some (.inl a1), none, none, none, none]) rfl (fun p e s m args below meth c A ad0 hX hr => ?_)
  rw [f_X3_withoutMates]
  refine ev_iload_n hX dX3_withoutMates_0 rfl ?_
  refine ev_istore_n hX dX3_withoutMates_1 rfl (L' := [some (.inr (.inl 4)), some (.inl a1), some (.inl a1), none, none, none]) rfl ?_
  refine ev_iconst hX dX3_withoutMates_2 (v := 0) (by decide +kernel) ?_
  refine ev_istore_n hX dX3_withoutMates_3 rfl (L' := [some (.inr (.inl 4)), some (.inl a1), some (.inl a1), some (.inl 0), none, none]) rfl ?_
  refine ev_mask [true, true, true, true, false, false] (L' := [some (.inr (.inl 4)), some (.inl a1), some (.inl a1), some (.inl 0), none, none]) rfl rfl ?_
  exact e_X3_withoutMates_4 hX hr 4096 a1 a1 0 w
def rm_J6_bitCount_0f7a4 : Room := { frames := 0, cells := 0, slots := 0, locals := 0 }
set_option maxHeartbeats 4000000 in
set_option maxRecDepth 100000 in
theorem c_J6_bitCount_0f7a4 (l : Launch) (D : va_G) (cI cC : ClassId) (td : Nat → Option Nat) (a0 : Int32) (w : mvW) : ∀ z, f_J6_bitCount_0f7a4 a0 w = some z → mv_Ci l D vwCl cI cC tbX td yJ6_bitCount_0f7a4 wsJ6_bitCount_0f7a4 rm_J6_bitCount_0f7a4 shX w [.inl a0] z := by
  refine mv_starti (own := RJ6) rfl (by decide) rfl rfl (L0 := [some (.inl a0)]) rfl (fun p e s m args below meth c A ad0 hX hr => ?_)
  rw [f_J6_bitCount_0f7a4]
  refine ev_iload_n hX dJ6_bitCount_0f7a4_0 rfl ?_
  refine ev_iload_n hX dJ6_bitCount_0f7a4_1 rfl ?_
  refine ev_iconst hX dJ6_bitCount_0f7a4_2 (v := 1) (by decide +kernel) ?_
  refine ev_iushr hX dJ6_bitCount_0f7a4_3 ?_
  refine ev_ldcw hX (v := 1431655765) dJ6_bitCount_0f7a4_4 (by decide +kernel) ?_
  refine ev_iand hX dJ6_bitCount_0f7a4_7 ?_
  refine ev_isub hX dJ6_bitCount_0f7a4_8 ?_
  refine ev_istore_n hX dJ6_bitCount_0f7a4_9 rfl (L' := [some (.inl (a0 - (((Int32.toUInt32 a0 >>> (Int32.toUInt32 1 &&& Int32.toUInt32 31)).toInt32) &&& 1431655765)))]) rfl ?_
  refine ev_iload_n hX dJ6_bitCount_0f7a4_10 rfl ?_
  refine ev_ldcw hX (v := 858993459) dJ6_bitCount_0f7a4_11 (by decide +kernel) ?_
  refine ev_iand hX dJ6_bitCount_0f7a4_14 ?_
  refine ev_iload_n hX dJ6_bitCount_0f7a4_15 rfl ?_
  refine ev_iconst hX dJ6_bitCount_0f7a4_16 (v := 2) (by decide +kernel) ?_
  refine ev_iushr hX dJ6_bitCount_0f7a4_17 ?_
  refine ev_ldcw hX (v := 858993459) dJ6_bitCount_0f7a4_18 (by decide +kernel) ?_
  refine ev_iand hX dJ6_bitCount_0f7a4_21 ?_
  refine ev_iadd hX dJ6_bitCount_0f7a4_22 ?_
  refine ev_istore_n hX dJ6_bitCount_0f7a4_23 rfl (L' := [some (.inl (((a0 - (((Int32.toUInt32 a0 >>> (Int32.toUInt32 1 &&& Int32.toUInt32 31)).toInt32) &&& 1431655765)) &&& 858993459) + (((Int32.toUInt32 (a0 - (((Int32.toUInt32 a0 >>> (Int32.toUInt32 1 &&& Int32.toUInt32 31)).toInt32) &&& 1431655765)) >>> (Int32.toUInt32 2 &&& Int32.toUInt32 31)).toInt32) &&& 858993459)))]) rfl ?_
  refine ev_iload_n hX dJ6_bitCount_0f7a4_24 rfl ?_
  refine ev_iload_n hX dJ6_bitCount_0f7a4_25 rfl ?_
  refine ev_iconst hX dJ6_bitCount_0f7a4_26 (v := 4) (by decide +kernel) ?_
  refine ev_iushr hX dJ6_bitCount_0f7a4_27 ?_
  refine ev_iadd hX dJ6_bitCount_0f7a4_28 ?_
  refine ev_ldcw hX (v := 252645135) dJ6_bitCount_0f7a4_29 (by decide +kernel) ?_
  refine ev_iand hX dJ6_bitCount_0f7a4_32 ?_
  refine ev_istore_n hX dJ6_bitCount_0f7a4_33 rfl (L' := [some (.inl (((((a0 - (((Int32.toUInt32 a0 >>> (Int32.toUInt32 1 &&& Int32.toUInt32 31)).toInt32) &&& 1431655765)) &&& 858993459) + (((Int32.toUInt32 (a0 - (((Int32.toUInt32 a0 >>> (Int32.toUInt32 1 &&& Int32.toUInt32 31)).toInt32) &&& 1431655765)) >>> (Int32.toUInt32 2 &&& Int32.toUInt32 31)).toInt32) &&& 858993459)) + ((Int32.toUInt32 (((a0 - (((Int32.toUInt32 a0 >>> (Int32.toUInt32 1 &&& Int32.toUInt32 31)).toInt32) &&& 1431655765)) &&& 858993459) + (((Int32.toUInt32 (a0 - (((Int32.toUInt32 a0 >>> (Int32.toUInt32 1 &&& Int32.toUInt32 31)).toInt32) &&& 1431655765)) >>> (Int32.toUInt32 2 &&& Int32.toUInt32 31)).toInt32) &&& 858993459)) >>> (Int32.toUInt32 4 &&& Int32.toUInt32 31)).toInt32)) &&& 252645135))]) rfl ?_
  refine ev_iload_n hX dJ6_bitCount_0f7a4_34 rfl ?_
  refine ev_iload_n hX dJ6_bitCount_0f7a4_35 rfl ?_
  refine ev_bipush hX dJ6_bitCount_0f7a4_36 (v := 8) (by decide +kernel) ?_
  refine ev_iushr hX dJ6_bitCount_0f7a4_38 ?_
  refine ev_iadd hX dJ6_bitCount_0f7a4_39 ?_
  refine ev_istore_n hX dJ6_bitCount_0f7a4_40 rfl (L' := [some (.inl ((((((a0 - (((Int32.toUInt32 a0 >>> (Int32.toUInt32 1 &&& Int32.toUInt32 31)).toInt32) &&& 1431655765)) &&& 858993459) + (((Int32.toUInt32 (a0 - (((Int32.toUInt32 a0 >>> (Int32.toUInt32 1 &&& Int32.toUInt32 31)).toInt32) &&& 1431655765)) >>> (Int32.toUInt32 2 &&& Int32.toUInt32 31)).toInt32) &&& 858993459)) + ((Int32.toUInt32 (((a0 - (((Int32.toUInt32 a0 >>> (Int32.toUInt32 1 &&& Int32.toUInt32 31)).toInt32) &&& 1431655765)) &&& 858993459) + (((Int32.toUInt32 (a0 - (((Int32.toUInt32 a0 >>> (Int32.toUInt32 1 &&& Int32.toUInt32 31)).toInt32) &&& 1431655765)) >>> (Int32.toUInt32 2 &&& Int32.toUInt32 31)).toInt32) &&& 858993459)) >>> (Int32.toUInt32 4 &&& Int32.toUInt32 31)).toInt32)) &&& 252645135) + ((Int32.toUInt32 (((((a0 - (((Int32.toUInt32 a0 >>> (Int32.toUInt32 1 &&& Int32.toUInt32 31)).toInt32) &&& 1431655765)) &&& 858993459) + (((Int32.toUInt32 (a0 - (((Int32.toUInt32 a0 >>> (Int32.toUInt32 1 &&& Int32.toUInt32 31)).toInt32) &&& 1431655765)) >>> (Int32.toUInt32 2 &&& Int32.toUInt32 31)).toInt32) &&& 858993459)) + ((Int32.toUInt32 (((a0 - (((Int32.toUInt32 a0 >>> (Int32.toUInt32 1 &&& Int32.toUInt32 31)).toInt32) &&& 1431655765)) &&& 858993459) + (((Int32.toUInt32 (a0 - (((Int32.toUInt32 a0 >>> (Int32.toUInt32 1 &&& Int32.toUInt32 31)).toInt32) &&& 1431655765)) >>> (Int32.toUInt32 2 &&& Int32.toUInt32 31)).toInt32) &&& 858993459)) >>> (Int32.toUInt32 4 &&& Int32.toUInt32 31)).toInt32)) &&& 252645135) >>> (Int32.toUInt32 8 &&& Int32.toUInt32 31)).toInt32)))]) rfl ?_
  refine ev_iload_n hX dJ6_bitCount_0f7a4_41 rfl ?_
  refine ev_iload_n hX dJ6_bitCount_0f7a4_42 rfl ?_
  refine ev_bipush hX dJ6_bitCount_0f7a4_43 (v := 16) (by decide +kernel) ?_
  refine ev_iushr hX dJ6_bitCount_0f7a4_45 ?_
  refine ev_iadd hX dJ6_bitCount_0f7a4_46 ?_
  refine ev_istore_n hX dJ6_bitCount_0f7a4_47 rfl (L' := [some (.inl (((((((a0 - (((Int32.toUInt32 a0 >>> (Int32.toUInt32 1 &&& Int32.toUInt32 31)).toInt32) &&& 1431655765)) &&& 858993459) + (((Int32.toUInt32 (a0 - (((Int32.toUInt32 a0 >>> (Int32.toUInt32 1 &&& Int32.toUInt32 31)).toInt32) &&& 1431655765)) >>> (Int32.toUInt32 2 &&& Int32.toUInt32 31)).toInt32) &&& 858993459)) + ((Int32.toUInt32 (((a0 - (((Int32.toUInt32 a0 >>> (Int32.toUInt32 1 &&& Int32.toUInt32 31)).toInt32) &&& 1431655765)) &&& 858993459) + (((Int32.toUInt32 (a0 - (((Int32.toUInt32 a0 >>> (Int32.toUInt32 1 &&& Int32.toUInt32 31)).toInt32) &&& 1431655765)) >>> (Int32.toUInt32 2 &&& Int32.toUInt32 31)).toInt32) &&& 858993459)) >>> (Int32.toUInt32 4 &&& Int32.toUInt32 31)).toInt32)) &&& 252645135) + ((Int32.toUInt32 (((((a0 - (((Int32.toUInt32 a0 >>> (Int32.toUInt32 1 &&& Int32.toUInt32 31)).toInt32) &&& 1431655765)) &&& 858993459) + (((Int32.toUInt32 (a0 - (((Int32.toUInt32 a0 >>> (Int32.toUInt32 1 &&& Int32.toUInt32 31)).toInt32) &&& 1431655765)) >>> (Int32.toUInt32 2 &&& Int32.toUInt32 31)).toInt32) &&& 858993459)) + ((Int32.toUInt32 (((a0 - (((Int32.toUInt32 a0 >>> (Int32.toUInt32 1 &&& Int32.toUInt32 31)).toInt32) &&& 1431655765)) &&& 858993459) + (((Int32.toUInt32 (a0 - (((Int32.toUInt32 a0 >>> (Int32.toUInt32 1 &&& Int32.toUInt32 31)).toInt32) &&& 1431655765)) >>> (Int32.toUInt32 2 &&& Int32.toUInt32 31)).toInt32) &&& 858993459)) >>> (Int32.toUInt32 4 &&& Int32.toUInt32 31)).toInt32)) &&& 252645135) >>> (Int32.toUInt32 8 &&& Int32.toUInt32 31)).toInt32)) + ((Int32.toUInt32 ((((((a0 - (((Int32.toUInt32 a0 >>> (Int32.toUInt32 1 &&& Int32.toUInt32 31)).toInt32) &&& 1431655765)) &&& 858993459) + (((Int32.toUInt32 (a0 - (((Int32.toUInt32 a0 >>> (Int32.toUInt32 1 &&& Int32.toUInt32 31)).toInt32) &&& 1431655765)) >>> (Int32.toUInt32 2 &&& Int32.toUInt32 31)).toInt32) &&& 858993459)) + ((Int32.toUInt32 (((a0 - (((Int32.toUInt32 a0 >>> (Int32.toUInt32 1 &&& Int32.toUInt32 31)).toInt32) &&& 1431655765)) &&& 858993459) + (((Int32.toUInt32 (a0 - (((Int32.toUInt32 a0 >>> (Int32.toUInt32 1 &&& Int32.toUInt32 31)).toInt32) &&& 1431655765)) >>> (Int32.toUInt32 2 &&& Int32.toUInt32 31)).toInt32) &&& 858993459)) >>> (Int32.toUInt32 4 &&& Int32.toUInt32 31)).toInt32)) &&& 252645135) + ((Int32.toUInt32 (((((a0 - (((Int32.toUInt32 a0 >>> (Int32.toUInt32 1 &&& Int32.toUInt32 31)).toInt32) &&& 1431655765)) &&& 858993459) + (((Int32.toUInt32 (a0 - (((Int32.toUInt32 a0 >>> (Int32.toUInt32 1 &&& Int32.toUInt32 31)).toInt32) &&& 1431655765)) >>> (Int32.toUInt32 2 &&& Int32.toUInt32 31)).toInt32) &&& 858993459)) + ((Int32.toUInt32 (((a0 - (((Int32.toUInt32 a0 >>> (Int32.toUInt32 1 &&& Int32.toUInt32 31)).toInt32) &&& 1431655765)) &&& 858993459) + (((Int32.toUInt32 (a0 - (((Int32.toUInt32 a0 >>> (Int32.toUInt32 1 &&& Int32.toUInt32 31)).toInt32) &&& 1431655765)) >>> (Int32.toUInt32 2 &&& Int32.toUInt32 31)).toInt32) &&& 858993459)) >>> (Int32.toUInt32 4 &&& Int32.toUInt32 31)).toInt32)) &&& 252645135) >>> (Int32.toUInt32 8 &&& Int32.toUInt32 31)).toInt32)) >>> (Int32.toUInt32 16 &&& Int32.toUInt32 31)).toInt32)))]) rfl ?_
  refine ev_iload_n hX dJ6_bitCount_0f7a4_48 rfl ?_
  refine ev_bipush hX dJ6_bitCount_0f7a4_49 (v := 63) (by decide +kernel) ?_
  refine ev_iand hX dJ6_bitCount_0f7a4_51 ?_
  exact ev_ireti hX hr dJ6_bitCount_0f7a4_52
def rm_X3_forcingSquares : Room := { frames := 1, cells := 0, slots := 0, locals := 21 }
set_option maxRecDepth 20000 in
theorem in_X3_forcingSquares_X3 : ∀ w ∈ u_ws RX3 TX3 6, w ∈ wsX3_forcingSquares := by decide +kernel
set_option maxHeartbeats 4000000 in
set_option maxRecDepth 100000 in
theorem c_X3_forcingSquares (l : Launch) (D : va_G) (cI cC : ClassId) (td : Nat → Option Nat) (a1 : Int32) (w : mvW) : ∀ z, f_X3_forcingSquares a1 w = some z → mv_Ci l D vwCl cI cC tbX td yX3_forcingSquares wsX3_forcingSquares rm_X3_forcingSquares shX w [.inr (.inl 4), .inl a1] z := by
  refine mv_starti (own := RX3) rfl (by decide) rfl rfl (L0 := [some (.inr (.inl 4)), some (.inl a1), none]) rfl (fun p e s m args below meth c A ad0 hX hr => ?_)
  rw [f_X3_forcingSquares]
  refine ev_aload_n hX dX3_forcingSquares_0 rfl ?_
  refine ev_getr (k := 0) hX (T := TX3) in_X3_forcingSquares_X3 rfl rfl rfl (show Cond.fieldLink RX3 28 "FiveShogi$Rules" "position" "LFiveShogi$Position;" ∈ _ by decide +kernel) rfl dX3_forcingSquares_1 ?_
  refine ev_iload_n hX dX3_forcingSquares_4 rfl ?_
  refine ev_callVi hX (k0 := 1) (As := [.inl a1]) (rm := rm_X2_manOn) (c_X2_manOn l D cI cC td a1 w) (cwV 1 hX.ts gX3_forcingSquares_X2_manOn rfl rfl rfl (by decide +kernel) ⟨Nat.le_of_ble_eq_true rfl, Nat.le_of_ble_eq_true rfl⟩) rfl rfl rfl rfl rfl rfl ⟨Nat.le_of_ble_eq_true rfl, Nat.le_of_ble_eq_true rfl⟩ dX3_forcingSquares_5 rfl (fun z1 hz1 => ?_)
  refine ev_istore_n hX dX3_forcingSquares_8 rfl (L' := [some (.inr (.inl 4)), some (.inl a1), some (.inl z1.1)]) rfl ?_
  refine ev_iload_n hX dX3_forcingSquares_9 rfl ?_
  refine ev_bipush hX dX3_forcingSquares_10 (v := 99) (by decide +kernel) ?_
  refine ev_icmp_eq (tgt := 33) hX dX3_forcingSquares_12 (by decide) ?_ ?_
  · refine ev_iconst hX dX3_forcingSquares_33 (v := 0) (by decide +kernel) ?_
    exact ev_ireti hX hr dX3_forcingSquares_34
  · refine ev_iload_n hX dX3_forcingSquares_15 rfl ?_
    refine ev_callNi hX (As := [.inl z1.1]) (rm := rm_X4_kindOf) (c_X4_kindOf l D cI cC td z1.1 z1.2) ⟨va_cnB (host := "FiveShogi") 1 hX.ts gX3_forcingSquares_X4_kindOf_n128 rfl rfl rfl (hX.sta.2.1 (_, 128, _, _) (List.mem_of_getElem? (i := 18) rfl)) (hX.ts _ (show Cond.initialized RX4 ∈ _ by decide +kernel)) (by decide +kernel) ⟨Nat.le_of_ble_eq_true rfl, Nat.le_of_ble_eq_true rfl⟩, hX.ts _ (show Cond.static yX4_kindOf ∈ _ by decide +kernel), trivial⟩ rfl rfl rfl ⟨Nat.le_of_ble_eq_true rfl, Nat.le_of_ble_eq_true rfl⟩ dX3_forcingSquares_16 rfl (fun z2 hz2 => ?_)
    refine ev_iconst hX dX3_forcingSquares_19 (v := 5) (by decide +kernel) ?_
    refine ev_icmp_ne (tgt := 33) hX dX3_forcingSquares_20 (by decide) ?_ ?_
    · refine ev_iconst hX dX3_forcingSquares_33 (v := 0) (by decide +kernel) ?_
      exact ev_ireti hX hr dX3_forcingSquares_34
    · refine ev_iload_n hX dX3_forcingSquares_23 rfl ?_
      refine ev_callNi hX (As := [.inl z1.1]) (rm := rm_X4_sideOf) (c_X4_sideOf l D cI cC td z1.1 z2.2) ⟨va_cnB (host := "FiveShogi") 1 hX.ts gX3_forcingSquares_X4_sideOf_n70 rfl rfl rfl (hX.sta.2.1 (_, 70, _, _) (List.mem_of_getElem? (i := 17) rfl)) (hX.ts _ (show Cond.initialized RX4 ∈ _ by decide +kernel)) (by decide +kernel) ⟨Nat.le_of_ble_eq_true rfl, Nat.le_of_ble_eq_true rfl⟩, hX.ts _ (show Cond.static yX4_sideOf ∈ _ by decide +kernel), trivial⟩ rfl rfl rfl ⟨Nat.le_of_ble_eq_true rfl, Nat.le_of_ble_eq_true rfl⟩ dX3_forcingSquares_24 rfl (fun z3 hz3 => ?_)
      refine ev_callNi hX (As := [.inl z3.1]) (rm := rm_X4_lastRow) (c_X4_lastRow l D cI cC td z3.1 z3.2) ⟨va_cnB (host := "FiveShogi") 1 hX.ts gX3_forcingSquares_X4_lastRow_n95 rfl rfl rfl (hX.sta.2.1 (_, 95, _, _) (List.mem_of_getElem? (i := 11) rfl)) (hX.ts _ (show Cond.initialized RX4 ∈ _ by decide +kernel)) (by decide +kernel) ⟨Nat.le_of_ble_eq_true rfl, Nat.le_of_ble_eq_true rfl⟩, hX.ts _ (show Cond.static yX4_lastRow ∈ _ by decide +kernel), trivial⟩ rfl rfl rfl ⟨Nat.le_of_ble_eq_true rfl, Nat.le_of_ble_eq_true rfl⟩ dX3_forcingSquares_27 rfl (fun z4 hz4 => ?_)
      refine ev_goto (tgt := 34) hX dX3_forcingSquares_30 (by decide) ?_
      exact ev_ireti hX hr dX3_forcingSquares_34
def rm_X3_promotingSquares : Room := { frames := 1, cells := 0, slots := 0, locals := 21 }
set_option maxRecDepth 20000 in
theorem in_X3_promotingSquares_X3 : ∀ w ∈ u_ws RX3 TX3 6, w ∈ wsX3_promotingSquares := by decide +kernel
set_option maxHeartbeats 4000000 in
set_option maxRecDepth 100000 in
theorem c_X3_promotingSquares (l : Launch) (D : va_G) (cI cC : ClassId) (td : Nat → Option Nat) (a1 : Int32) (w : mvW) : ∀ z, f_X3_promotingSquares a1 w = some z → mv_Ci l D vwCl cI cC tbX td yX3_promotingSquares wsX3_promotingSquares rm_X3_promotingSquares shX w [.inr (.inl 4), .inl a1] z := by
  refine mv_starti (own := RX3) rfl (by decide) rfl rfl (L0 := [some (.inr (.inl 4)), some (.inl a1), none, none]) rfl (fun p e s m args below meth c A ad0 hX hr => ?_)
  rw [f_X3_promotingSquares]
  refine ev_aload_n hX dX3_promotingSquares_0 rfl ?_
  refine ev_getr (k := 0) hX (T := TX3) in_X3_promotingSquares_X3 rfl rfl rfl (show Cond.fieldLink RX3 28 "FiveShogi$Rules" "position" "LFiveShogi$Position;" ∈ _ by decide +kernel) rfl dX3_promotingSquares_1 ?_
  refine ev_iload_n hX dX3_promotingSquares_4 rfl ?_
  refine ev_callVi hX (k0 := 1) (As := [.inl a1]) (rm := rm_X2_manOn) (c_X2_manOn l D cI cC td a1 w) (cwV 1 hX.ts gX3_promotingSquares_X2_manOn rfl rfl rfl (by decide +kernel) ⟨Nat.le_of_ble_eq_true rfl, Nat.le_of_ble_eq_true rfl⟩) rfl rfl rfl rfl rfl rfl ⟨Nat.le_of_ble_eq_true rfl, Nat.le_of_ble_eq_true rfl⟩ dX3_promotingSquares_5 rfl (fun z1 hz1 => ?_)
  refine ev_istore_n hX dX3_promotingSquares_8 rfl (L' := [some (.inr (.inl 4)), some (.inl a1), some (.inl z1.1), none]) rfl ?_
  refine ev_iload_n hX dX3_promotingSquares_9 rfl ?_
  refine ev_bipush hX dX3_promotingSquares_10 (v := 99) (by decide +kernel) ?_
  refine ev_icmp_eq (tgt := 31) hX dX3_promotingSquares_12 (by decide) ?_ ?_
  · refine ev_iconst hX dX3_promotingSquares_31 (v := 0) (by decide +kernel) ?_
    exact ev_ireti hX hr dX3_promotingSquares_32
  · refine ev_iload_n hX dX3_promotingSquares_15 rfl ?_
    refine ev_callNi hX (As := [.inl z1.1]) (rm := rm_X4_kindOf) (c_X4_kindOf l D cI cC td z1.1 z1.2) ⟨va_cnB (host := "FiveShogi") 1 hX.ts gX3_promotingSquares_X4_kindOf_n128 rfl rfl rfl (hX.sta.2.1 (_, 128, _, _) (List.mem_of_getElem? (i := 18) rfl)) (hX.ts _ (show Cond.initialized RX4 ∈ _ by decide +kernel)) (by decide +kernel) ⟨Nat.le_of_ble_eq_true rfl, Nat.le_of_ble_eq_true rfl⟩, hX.ts _ (show Cond.static yX4_kindOf ∈ _ by decide +kernel), trivial⟩ rfl rfl rfl ⟨Nat.le_of_ble_eq_true rfl, Nat.le_of_ble_eq_true rfl⟩ dX3_promotingSquares_16 rfl (fun z2 hz2 => ?_)
    refine ev_iconst hX dX3_promotingSquares_19 (v := 2) (by decide +kernel) ?_
    refine ev_icmp_lt (tgt := 31) hX dX3_promotingSquares_20 (by decide) ?_ ?_
    · refine ev_iconst hX dX3_promotingSquares_31 (v := 0) (by decide +kernel) ?_
      exact ev_ireti hX hr dX3_promotingSquares_32
    · refine ev_iload_n hX dX3_promotingSquares_23 rfl ?_
      refine ev_callNi hX (As := [.inl z1.1]) (rm := rm_X4_kindOf) (c_X4_kindOf l D cI cC td z1.1 z2.2) ⟨va_cnB (host := "FiveShogi") 1 hX.ts gX3_promotingSquares_X4_kindOf_n128 rfl rfl rfl (hX.sta.2.1 (_, 128, _, _) (List.mem_of_getElem? (i := 18) rfl)) (hX.ts _ (show Cond.initialized RX4 ∈ _ by decide +kernel)) (by decide +kernel) ⟨Nat.le_of_ble_eq_true rfl, Nat.le_of_ble_eq_true rfl⟩, hX.ts _ (show Cond.static yX4_kindOf ∈ _ by decide +kernel), trivial⟩ rfl rfl rfl ⟨Nat.le_of_ble_eq_true rfl, Nat.le_of_ble_eq_true rfl⟩ dX3_promotingSquares_24 rfl (fun z3 hz3 => ?_)
      refine ev_iconst hX dX3_promotingSquares_27 (v := 5) (by decide +kernel) ?_
      refine ev_icmp_le (tgt := 33) hX dX3_promotingSquares_28 (by decide) ?_ ?_
      · refine ev_iload_n hX dX3_promotingSquares_33 rfl ?_
        refine ev_callNi hX (As := [.inl z1.1]) (rm := rm_X4_sideOf) (c_X4_sideOf l D cI cC td z1.1 z3.2) ⟨va_cnB (host := "FiveShogi") 1 hX.ts gX3_promotingSquares_X4_sideOf_n70 rfl rfl rfl (hX.sta.2.1 (_, 70, _, _) (List.mem_of_getElem? (i := 17) rfl)) (hX.ts _ (show Cond.initialized RX4 ∈ _ by decide +kernel)) (by decide +kernel) ⟨Nat.le_of_ble_eq_true rfl, Nat.le_of_ble_eq_true rfl⟩, hX.ts _ (show Cond.static yX4_sideOf ∈ _ by decide +kernel), trivial⟩ rfl rfl rfl ⟨Nat.le_of_ble_eq_true rfl, Nat.le_of_ble_eq_true rfl⟩ dX3_promotingSquares_34 rfl (fun z4 hz4 => ?_)
        refine ev_callNi hX (As := [.inl z4.1]) (rm := rm_X4_lastRow) (c_X4_lastRow l D cI cC td z4.1 z4.2) ⟨va_cnB (host := "FiveShogi") 1 hX.ts gX3_promotingSquares_X4_lastRow_n95 rfl rfl rfl (hX.sta.2.1 (_, 95, _, _) (List.mem_of_getElem? (i := 11) rfl)) (hX.ts _ (show Cond.initialized RX4 ∈ _ by decide +kernel)) (by decide +kernel) ⟨Nat.le_of_ble_eq_true rfl, Nat.le_of_ble_eq_true rfl⟩, hX.ts _ (show Cond.static yX4_lastRow ∈ _ by decide +kernel), trivial⟩ rfl rfl rfl ⟨Nat.le_of_ble_eq_true rfl, Nat.le_of_ble_eq_true rfl⟩ dX3_promotingSquares_37 rfl (fun z5 hz5 => ?_)
        refine ev_istore_n hX dX3_promotingSquares_40 rfl (L' := [some (.inr (.inl 4)), some (.inl a1), some (.inl z1.1), some (.inl z5.1)]) rfl ?_
        refine ev_iload_n hX dX3_promotingSquares_41 rfl ?_
        refine ev_iload_n hX dX3_promotingSquares_42 rfl ?_
        refine ev_callNi hX (As := [.inl z5.1, .inl a1]) (rm := rm_X4_has) (c_X4_has l D cI cC td z5.1 a1 z5.2) ⟨va_cnB (host := "FiveShogi") 2 hX.ts gX3_promotingSquares_X4_has_n76 rfl rfl rfl (hX.sta.2.1 (_, 76, _, _) (List.mem_of_getElem? (i := 12) rfl)) (hX.ts _ (show Cond.initialized RX4 ∈ _ by decide +kernel)) (by decide +kernel) ⟨Nat.le_of_ble_eq_true rfl, Nat.le_of_ble_eq_true rfl⟩, hX.ts _ (show Cond.static yX4_has ∈ _ by decide +kernel), trivial⟩ rfl rfl rfl ⟨Nat.le_of_ble_eq_true rfl, Nat.le_of_ble_eq_true rfl⟩ dX3_promotingSquares_43 rfl (fun z6 hz6 => ?_)
        refine ev_if_eq (tgt := 54) hX dX3_promotingSquares_46 (by decide) ?_ ?_
        · refine ev_iload_n hX dX3_promotingSquares_54 rfl ?_
          exact ev_ireti hX hr dX3_promotingSquares_55
        · refine ev_ldc hX (v := 33554431) dX3_promotingSquares_49 (by decide +kernel) ?_
          refine ev_goto (tgt := 55) hX dX3_promotingSquares_51 (by decide) ?_
          exact ev_ireti hX hr dX3_promotingSquares_55
      · refine ev_iconst hX dX3_promotingSquares_31 (v := 0) (by decide +kernel) ?_
        exact ev_ireti hX hr dX3_promotingSquares_32
def rm_X3_findPlays : Room := { frames := 5, cells := 0, slots := 0, locals := 124 }
set_option maxRecDepth 20000 in
theorem in_X3_findPlays_X3 : ∀ w ∈ u_ws RX3 TX3 6, w ∈ wsX3_findPlays := by decide +kernel
set_option maxHeartbeats 4000000 in
set_option maxRecDepth 100000 in
theorem e_X3_findPlays_160 (hX : mv_X p s m args meth c D vwCl cI cC tbX td A cX3_findPlays 6 RX3 wsX3_findPlays) (hr : meth.sig.returnType = (some .int)) (k122 : Int32 → Int32 → Int32 → mvW → Option (Int32 × mvW)) (hk122 : ∀ (x2 : Int32) (x3 : Int32) (x4 : Int32) (w : mvW), EV p l e (headSpec wsX3_findPlays rm_X3_findPlays).room s m args below meth c D vwCl cI cC td A (fun a => a = ad0) (mv_Qi below args s D vwCl cI cC shX ad0 A) 0 0 shX [some (.inr (.inl 4)), none, some (.inl x2), some (.inl x3), some (.inl x4), none] [] 122 w (k122 x2 x3 x4 w)) (x2 : Int32) (x3 : Int32) (x4 : Int32) (s0 : Int32) (s1 : Int32) (w : mvW) : EV p l e (headSpec wsX3_findPlays rm_X3_findPlays).room s m args below meth c D vwCl cI cC td A (fun a => a = ad0) (mv_Qi below args s D vwCl cI cC shX ad0 A) 0 0 shX [some (.inr (.inl 4)), none, some (.inl x2), some (.inl x3), some (.inl x4), none] [.inl s0, .inl s1, .inr (.inl 7)] 160 w (f_X3_findPlays_160 k122 x2 x3 x4 s0 s1 w) := by
  rw [f_X3_findPlays_160]
  refine ev_iast hX rfl dX3_findPlays_160 (fun j8 => ?_)
  refine ev_iload_n hX dX3_findPlays_161 rfl ?_
  refine ev_aload_n hX dX3_findPlays_162 rfl ?_
  refine ev_getr (k := 3) hX (T := TX3) in_X3_findPlays_X3 rfl rfl rfl (show Cond.fieldLink RX3 18 "FiveShogi$Rules" "kindDrops" "[I" ∈ _ by decide +kernel) rfl dX3_findPlays_163 ?_
  refine ev_iload hX dX3_findPlays_166 rfl ?_
  refine ev_iald hX rfl dX3_findPlays_168 (fun j9 => ?_)
  refine ev_callSi hX (As := [.inl ((mv_up w 7 j8 s0) 7 j9)]) (rm := rm_J6_bitCount_0f7a4) (c_J6_bitCount_0f7a4 l D cI cC td ((mv_up w 7 j8 s0) 7 j9) (mv_up w 7 j8 s0)) (va_cwS 1 hX.ts gX3_findPlays_J6_bitCount_0f7a4 rfl rfl rfl (by decide +kernel) ⟨Nat.le_of_ble_eq_true rfl, Nat.le_of_ble_eq_true rfl⟩) rfl rfl rfl ⟨Nat.le_of_ble_eq_true rfl, Nat.le_of_ble_eq_true rfl⟩ dX3_findPlays_169 rfl (fun z10 hz10 => ?_)
  refine ev_iadd hX dX3_findPlays_172 ?_
  refine ev_istore_n hX dX3_findPlays_173 rfl (L' := [some (.inr (.inl 4)), none, some (.inl (x2 + z10.1)), some (.inl x3), some (.inl x4), none]) rfl ?_
  refine ev_iinc hX dX3_findPlays_174 rfl (v := 1) (by decide +kernel) (L' := [some (.inr (.inl 4)), none, some (.inl (x2 + z10.1)), some (.inl x3), some (.inl (x4 + 1)), none]) rfl ?_
  refine ev_goto (tgt := 122) hX dX3_findPlays_177 (by decide) ?_
  refine ev_mask [true, false, true, true, true, false] (L' := [some (.inr (.inl 4)), none, some (.inl (x2 + z10.1)), some (.inl x3), some (.inl (x4 + 1)), none]) rfl rfl ?_
  exact hk122 (x2 + z10.1) x3 (x4 + 1) z10.2
set_option maxHeartbeats 4000000 in
set_option maxRecDepth 100000 in
theorem e_X3_findPlays_122 (hX : mv_X p s m args meth c D vwCl cI cC tbX td A cX3_findPlays 6 RX3 wsX3_findPlays) (hr : meth.sig.returnType = (some .int)) : ∀ (n : Nat) (x2 : Int32) (x3 : Int32) (x4 : Int32) (w : mvW), EV p l e (headSpec wsX3_findPlays rm_X3_findPlays).room s m args below meth c D vwCl cI cC td A (fun a => a = ad0) (mv_Qi below args s D vwCl cI cC shX ad0 A) 0 0 shX [some (.inr (.inl 4)), none, some (.inl x2), some (.inl x3), some (.inl x4), none] [] 122 w (f_X3_findPlays_122 n x2 x3 x4 w) := by
  intro n
  induction n with
  | zero => intro x2 x3 x4 w; exact ev_none
  | succ n ih =>
    intro x2 x3 x4 w
    rw [f_X3_findPlays_122]
    refine ev_iload hX dX3_findPlays_122 rfl ?_
    refine ev_iconst hX dX3_findPlays_124 (v := 5) (by decide +kernel) ?_
    refine ev_icmp_gt (tgt := 180) hX dX3_findPlays_125 (by decide) ?_ ?_
    · refine ev_iload_n hX dX3_findPlays_180 rfl ?_
      exact ev_ireti hX hr dX3_findPlays_181
    · refine ev_aload_n hX dX3_findPlays_128 rfl ?_
      refine ev_iload hX dX3_findPlays_129 rfl ?_
      refine ev_iload_n hX dX3_findPlays_131 rfl ?_
      refine ev_callVi hX (k0 := 4) (As := [.inl x4, .inl x3]) (rm := rm_X3_openToDrops) (c_X3_openToDrops l D cI cC td x4 x3 w) (cwV 2 hX.ts gX3_findPlays_X3_openToDrops rfl rfl rfl (by decide +kernel) ⟨Nat.le_of_ble_eq_true rfl, Nat.le_of_ble_eq_true rfl⟩) rfl rfl rfl rfl rfl rfl ⟨Nat.le_of_ble_eq_true rfl, Nat.le_of_ble_eq_true rfl⟩ dX3_findPlays_132 rfl (fun z5 hz5 => ?_)
      refine ev_istore hX dX3_findPlays_135 rfl (L' := [some (.inr (.inl 4)), none, some (.inl x2), some (.inl x3), some (.inl x4), some (.inl z5.1)]) rfl ?_
      refine ev_aload_n hX dX3_findPlays_137 rfl ?_
      refine ev_getr (k := 3) hX (T := TX3) in_X3_findPlays_X3 rfl rfl rfl (show Cond.fieldLink RX3 18 "FiveShogi$Rules" "kindDrops" "[I" ∈ _ by decide +kernel) rfl dX3_findPlays_138 ?_
      refine ev_iload hX dX3_findPlays_141 rfl ?_
      refine ev_iload hX dX3_findPlays_143 rfl ?_
      refine ev_iconst hX dX3_findPlays_145 (v := 5) (by decide +kernel) ?_
      refine ev_icmp_ne (tgt := 158) hX dX3_findPlays_146 (by decide) ?_ ?_
      · refine ev_iload hX dX3_findPlays_158 rfl ?_
        refine ev_mask [true, false, true, true, true, false] (L' := [some (.inr (.inl 4)), none, some (.inl x2), some (.inl x3), some (.inl x4), none]) rfl rfl ?_
        exact e_X3_findPlays_160 hX hr (fun x2' x3' x4' w' => f_X3_findPlays_122 n x2' x3' x4' w') (fun x2' x3' x4' w' => ih x2' x3' x4' w') x2 x3 x4 z5.1 x4 z5.2
      · refine ev_aload_n hX dX3_findPlays_149 rfl ?_
        refine ev_iload hX dX3_findPlays_150 rfl ?_
        refine ev_callVi hX (k0 := 4) (As := [.inl z5.1]) (rm := rm_X3_withoutMates) (c_X3_withoutMates l D cI cC td z5.1 z5.2) (cwV 1 hX.ts gX3_findPlays_X3_withoutMates rfl rfl rfl (by decide +kernel) ⟨Nat.le_of_ble_eq_true rfl, Nat.le_of_ble_eq_true rfl⟩) rfl rfl rfl rfl rfl rfl ⟨Nat.le_of_ble_eq_true rfl, Nat.le_of_ble_eq_true rfl⟩ dX3_findPlays_152 rfl (fun z6 hz6 => ?_)
        refine ev_goto (tgt := 160) hX dX3_findPlays_155 (by decide) ?_
        refine ev_mask [true, false, true, true, true, false] (L' := [some (.inr (.inl 4)), none, some (.inl x2), some (.inl x3), some (.inl x4), none]) rfl rfl ?_
        exact e_X3_findPlays_160 hX hr (fun x2' x3' x4' w' => f_X3_findPlays_122 n x2' x3' x4' w') (fun x2' x3' x4' w' => ih x2' x3' x4' w') x2 x3 x4 z6.1 x4 z6.2
set_option maxHeartbeats 4000000 in
set_option maxRecDepth 100000 in
theorem e_X3_findPlays_54 (hX : mv_X p s m args meth c D vwCl cI cC tbX td A cX3_findPlays 6 RX3 wsX3_findPlays) (hr : meth.sig.returnType = (some .int)) (k12 : Int32 → Int32 → Int32 → mvW → Option (Int32 × mvW)) (hk12 : ∀ (x1 : Int32) (x2 : Int32) (x3 : Int32) (w : mvW), EV p l e (headSpec wsX3_findPlays rm_X3_findPlays).room s m args below meth c D vwCl cI cC td A (fun a => a = ad0) (mv_Qi below args s D vwCl cI cC shX ad0 A) 0 0 shX [some (.inr (.inl 4)), some (.inl x1), some (.inl x2), some (.inl x3), none, none] [] 12 w (k12 x1 x2 x3 w)) (x1 : Int32) (x2 : Int32) (x3 : Int32) (s0 : Int32) (w : mvW) : EV p l e (headSpec wsX3_findPlays rm_X3_findPlays).room s m args below meth c D vwCl cI cC td A (fun a => a = ad0) (mv_Qi below args s D vwCl cI cC shX ad0 A) 0 0 shX [some (.inr (.inl 4)), some (.inl x1), some (.inl x2), some (.inl x3), none, none] [.inl s0] 54 w (f_X3_findPlays_54 k12 x1 x2 x3 s0 w) := by
  rw [f_X3_findPlays_54]
  refine ev_istore hX dX3_findPlays_54 rfl (L' := [some (.inr (.inl 4)), some (.inl x1), some (.inl x2), some (.inl x3), none, some (.inl s0)]) rfl ?_
  refine ev_aload_n hX dX3_findPlays_56 rfl ?_
  refine ev_getr (k := 1) hX (T := TX3) in_X3_findPlays_X3 rfl rfl rfl (show Cond.fieldLink RX3 9 "FiveShogi$Rules" "plainMoves" "[I" ∈ _ by decide +kernel) rfl dX3_findPlays_57 ?_
  refine ev_iload_n hX dX3_findPlays_60 rfl ?_
  refine ev_iload hX dX3_findPlays_61 rfl ?_
  refine ev_aload_n hX dX3_findPlays_63 rfl ?_
  refine ev_iload_n hX dX3_findPlays_64 rfl ?_
  refine ev_callVi hX (k0 := 4) (As := [.inl x3]) (rm := rm_X3_forcingSquares) (c_X3_forcingSquares l D cI cC td x3 w) (cwV 1 hX.ts gX3_findPlays_X3_forcingSquares rfl rfl rfl (by decide +kernel) ⟨Nat.le_of_ble_eq_true rfl, Nat.le_of_ble_eq_true rfl⟩) rfl rfl rfl rfl rfl rfl ⟨Nat.le_of_ble_eq_true rfl, Nat.le_of_ble_eq_true rfl⟩ dX3_findPlays_65 rfl (fun z11 hz11 => ?_)
  refine ev_iconst hX dX3_findPlays_68 (v := (-1)) (by decide +kernel) ?_
  refine ev_ixor hX dX3_findPlays_69 ?_
  refine ev_iand hX dX3_findPlays_70 ?_
  refine ev_iast hX rfl dX3_findPlays_71 (fun j12 => ?_)
  refine ev_aload_n hX dX3_findPlays_72 rfl ?_
  refine ev_getr (k := 2) hX (T := TX3) in_X3_findPlays_X3 rfl rfl rfl (show Cond.fieldLink RX3 15 "FiveShogi$Rules" "promotedMoves" "[I" ∈ _ by decide +kernel) rfl dX3_findPlays_73 ?_
  refine ev_iload_n hX dX3_findPlays_76 rfl ?_
  refine ev_iload hX dX3_findPlays_77 rfl ?_
  refine ev_aload_n hX dX3_findPlays_79 rfl ?_
  refine ev_iload_n hX dX3_findPlays_80 rfl ?_
  refine ev_callVi hX (k0 := 4) (As := [.inl x3]) (rm := rm_X3_promotingSquares) (c_X3_promotingSquares l D cI cC td x3 (mv_up z11.2 5 j12 (s0 &&& (z11.1 ^^^ (-1))))) (cwV 1 hX.ts gX3_findPlays_X3_promotingSquares rfl rfl rfl (by decide +kernel) ⟨Nat.le_of_ble_eq_true rfl, Nat.le_of_ble_eq_true rfl⟩) rfl rfl rfl rfl rfl rfl ⟨Nat.le_of_ble_eq_true rfl, Nat.le_of_ble_eq_true rfl⟩ dX3_findPlays_81 rfl (fun z13 hz13 => ?_)
  refine ev_iand hX dX3_findPlays_84 ?_
  refine ev_iast hX rfl dX3_findPlays_85 (fun j14 => ?_)
  refine ev_iload_n hX dX3_findPlays_86 rfl ?_
  refine ev_aload_n hX dX3_findPlays_87 rfl ?_
  refine ev_getr (k := 1) hX (T := TX3) in_X3_findPlays_X3 rfl rfl rfl (show Cond.fieldLink RX3 9 "FiveShogi$Rules" "plainMoves" "[I" ∈ _ by decide +kernel) rfl dX3_findPlays_88 ?_
  refine ev_iload_n hX dX3_findPlays_91 rfl ?_
  refine ev_iald hX rfl dX3_findPlays_92 (fun j15 => ?_)
  refine ev_callSi hX (As := [.inl ((mv_up z13.2 6 j14 (s0 &&& z13.1)) 5 j15)]) (rm := rm_J6_bitCount_0f7a4) (c_J6_bitCount_0f7a4 l D cI cC td ((mv_up z13.2 6 j14 (s0 &&& z13.1)) 5 j15) (mv_up z13.2 6 j14 (s0 &&& z13.1))) (va_cwS 1 hX.ts gX3_findPlays_J6_bitCount_0f7a4 rfl rfl rfl (by decide +kernel) ⟨Nat.le_of_ble_eq_true rfl, Nat.le_of_ble_eq_true rfl⟩) rfl rfl rfl ⟨Nat.le_of_ble_eq_true rfl, Nat.le_of_ble_eq_true rfl⟩ dX3_findPlays_93 rfl (fun z16 hz16 => ?_)
  refine ev_aload_n hX dX3_findPlays_96 rfl ?_
  refine ev_getr (k := 2) hX (T := TX3) in_X3_findPlays_X3 rfl rfl rfl (show Cond.fieldLink RX3 15 "FiveShogi$Rules" "promotedMoves" "[I" ∈ _ by decide +kernel) rfl dX3_findPlays_97 ?_
  refine ev_iload_n hX dX3_findPlays_100 rfl ?_
  refine ev_iald hX rfl dX3_findPlays_101 (fun j17 => ?_)
  refine ev_callSi hX (As := [.inl (z16.2 6 j17)]) (rm := rm_J6_bitCount_0f7a4) (c_J6_bitCount_0f7a4 l D cI cC td (z16.2 6 j17) z16.2) (va_cwS 1 hX.ts gX3_findPlays_J6_bitCount_0f7a4 rfl rfl rfl (by decide +kernel) ⟨Nat.le_of_ble_eq_true rfl, Nat.le_of_ble_eq_true rfl⟩) rfl rfl rfl ⟨Nat.le_of_ble_eq_true rfl, Nat.le_of_ble_eq_true rfl⟩ dX3_findPlays_102 rfl (fun z18 hz18 => ?_)
  refine ev_iadd hX dX3_findPlays_105 ?_
  refine ev_iadd hX dX3_findPlays_106 ?_
  refine ev_istore_n hX dX3_findPlays_107 rfl (L' := [some (.inr (.inl 4)), some (.inl x1), some (.inl (x2 + (z16.1 + z18.1))), some (.inl x3), none, some (.inl s0)]) rfl ?_
  refine ev_iinc hX dX3_findPlays_108 rfl (v := 1) (by decide +kernel) (L' := [some (.inr (.inl 4)), some (.inl x1), some (.inl (x2 + (z16.1 + z18.1))), some (.inl (x3 + 1)), none, some (.inl s0)]) rfl ?_
  refine ev_goto (tgt := 12) hX dX3_findPlays_111 (by decide) ?_
  refine ev_mask [true, true, true, true, false, false] (L' := [some (.inr (.inl 4)), some (.inl x1), some (.inl (x2 + (z16.1 + z18.1))), some (.inl (x3 + 1)), none, none]) rfl rfl ?_
  exact hk12 x1 (x2 + (z16.1 + z18.1)) (x3 + 1) z18.2
set_option maxHeartbeats 4000000 in
set_option maxRecDepth 100000 in
theorem e_X3_findPlays_38 (hX : mv_X p s m args meth c D vwCl cI cC tbX td A cX3_findPlays 6 RX3 wsX3_findPlays) (hr : meth.sig.returnType = (some .int)) (k12 : Int32 → Int32 → Int32 → mvW → Option (Int32 × mvW)) (hk12 : ∀ (x1 : Int32) (x2 : Int32) (x3 : Int32) (w : mvW), EV p l e (headSpec wsX3_findPlays rm_X3_findPlays).room s m args below meth c D vwCl cI cC td A (fun a => a = ad0) (mv_Qi below args s D vwCl cI cC shX ad0 A) 0 0 shX [some (.inr (.inl 4)), some (.inl x1), some (.inl x2), some (.inl x3), none, none] [] 12 w (k12 x1 x2 x3 w)) (x1 : Int32) (x2 : Int32) (x3 : Int32) (s0 : Int32) (w : mvW) : EV p l e (headSpec wsX3_findPlays rm_X3_findPlays).room s m args below meth c D vwCl cI cC td A (fun a => a = ad0) (mv_Qi below args s D vwCl cI cC shX ad0 A) 0 0 shX [some (.inr (.inl 4)), some (.inl x1), some (.inl x2), some (.inl x3), none, none] [.inl s0] 38 w (f_X3_findPlays_38 k12 x1 x2 x3 s0 w) := by
  rw [f_X3_findPlays_38]
  refine ev_istore hX dX3_findPlays_38 rfl (L' := [some (.inr (.inl 4)), some (.inl x1), some (.inl x2), some (.inl x3), some (.inl s0), none]) rfl ?_
  refine ev_iload hX dX3_findPlays_40 rfl ?_
  refine ev_if_eq (tgt := 53) hX dX3_findPlays_42 (by decide) ?_ ?_
  · refine ev_iconst hX dX3_findPlays_53 (v := 0) (by decide +kernel) ?_
    refine ev_mask [true, true, true, true, false, false] (L' := [some (.inr (.inl 4)), some (.inl x1), some (.inl x2), some (.inl x3), none, none]) rfl rfl ?_
    exact e_X3_findPlays_54 hX hr k12 hk12 x1 x2 x3 0 w
  · refine ev_aload_n hX dX3_findPlays_45 rfl ?_
    refine ev_iload_n hX dX3_findPlays_46 rfl ?_
    refine ev_callVi hX (k0 := 4) (As := [.inl x3]) (rm := rm_X3_safeTargets) (c_X3_safeTargets l D cI cC td x3 w) (cwV 1 hX.ts gX3_findPlays_X3_safeTargets rfl rfl rfl (by decide +kernel) ⟨Nat.le_of_ble_eq_true rfl, Nat.le_of_ble_eq_true rfl⟩) rfl rfl rfl rfl rfl rfl ⟨Nat.le_of_ble_eq_true rfl, Nat.le_of_ble_eq_true rfl⟩ dX3_findPlays_47 rfl (fun z7 hz7 => ?_)
    refine ev_goto (tgt := 54) hX dX3_findPlays_50 (by decide) ?_
    refine ev_mask [true, true, true, true, false, false] (L' := [some (.inr (.inl 4)), some (.inl x1), some (.inl x2), some (.inl x3), none, none]) rfl rfl ?_
    exact e_X3_findPlays_54 hX hr k12 hk12 x1 x2 x3 z7.1 z7.2
set_option maxHeartbeats 4000000 in
set_option maxRecDepth 100000 in
theorem e_X3_findPlays_12 (hX : mv_X p s m args meth c D vwCl cI cC tbX td A cX3_findPlays 6 RX3 wsX3_findPlays) (hr : meth.sig.returnType = (some .int)) : ∀ (n : Nat) (x1 : Int32) (x2 : Int32) (x3 : Int32) (w : mvW), EV p l e (headSpec wsX3_findPlays rm_X3_findPlays).room s m args below meth c D vwCl cI cC td A (fun a => a = ad0) (mv_Qi below args s D vwCl cI cC shX ad0 A) 0 0 shX [some (.inr (.inl 4)), some (.inl x1), some (.inl x2), some (.inl x3), none, none] [] 12 w (f_X3_findPlays_12 n x1 x2 x3 w) := by
  intro n
  induction n with
  | zero => intro x1 x2 x3 w; exact ev_none
  | succ n ih =>
    intro x1 x2 x3 w
    rw [f_X3_findPlays_12]
    refine ev_iload_n hX dX3_findPlays_12 rfl ?_
    refine ev_bipush hX dX3_findPlays_13 (v := 25) (by decide +kernel) ?_
    refine ev_icmp_ge (tgt := 114) hX dX3_findPlays_15 (by decide) ?_ ?_
    · refine ev_aload_n hX dX3_findPlays_114 rfl ?_
      refine ev_callVi hX (k0 := 4) (As := []) (rm := rm_X3_safeDrops) (c_X3_safeDrops l D cI cC td w) (cwV 0 hX.ts gX3_findPlays_X3_safeDrops rfl rfl rfl (by decide +kernel) ⟨Nat.le_of_ble_eq_true rfl, Nat.le_of_ble_eq_true rfl⟩) rfl rfl rfl rfl rfl rfl ⟨Nat.le_of_ble_eq_true rfl, Nat.le_of_ble_eq_true rfl⟩ dX3_findPlays_115 rfl (fun z2 hz2 => ?_)
      refine ev_istore_n hX dX3_findPlays_118 rfl (L' := [some (.inr (.inl 4)), some (.inl x1), some (.inl x2), some (.inl z2.1), none, none]) rfl ?_
      refine ev_iconst hX dX3_findPlays_119 (v := 1) (by decide +kernel) ?_
      refine ev_istore hX dX3_findPlays_120 rfl (L' := [some (.inr (.inl 4)), some (.inl x1), some (.inl x2), some (.inl z2.1), some (.inl 1), none]) rfl ?_
      refine ev_mask [true, false, true, true, true, false] (L' := [some (.inr (.inl 4)), none, some (.inl x2), some (.inl z2.1), some (.inl 1), none]) rfl rfl ?_
      exact e_X3_findPlays_122 hX hr 4096 x2 z2.1 1 z2.2
    · refine ev_aload_n hX dX3_findPlays_18 rfl ?_
      refine ev_getr (k := 0) hX (T := TX3) in_X3_findPlays_X3 rfl rfl rfl (show Cond.fieldLink RX3 28 "FiveShogi$Rules" "position" "LFiveShogi$Position;" ∈ _ by decide +kernel) rfl dX3_findPlays_19 ?_
      refine ev_iload_n hX dX3_findPlays_22 rfl ?_
      refine ev_callVi hX (k0 := 1) (As := [.inl x3]) (rm := rm_X2_manOn) (c_X2_manOn l D cI cC td x3 w) (cwV 1 hX.ts gX3_findPlays_X2_manOn rfl rfl rfl (by decide +kernel) ⟨Nat.le_of_ble_eq_true rfl, Nat.le_of_ble_eq_true rfl⟩) rfl rfl rfl rfl rfl rfl ⟨Nat.le_of_ble_eq_true rfl, Nat.le_of_ble_eq_true rfl⟩ dX3_findPlays_23 rfl (fun z3 hz3 => ?_)
      refine ev_callNi hX (As := [.inl z3.1]) (rm := rm_X4_sideOf) (c_X4_sideOf l D cI cC td z3.1 z3.2) ⟨va_cnB (host := "FiveShogi") 1 hX.ts gX3_findPlays_X4_sideOf_n70 rfl rfl rfl (hX.sta.2.1 (_, 70, _, _) (List.mem_of_getElem? (i := 17) rfl)) (hX.ts _ (show Cond.initialized RX4 ∈ _ by decide +kernel)) (by decide +kernel) ⟨Nat.le_of_ble_eq_true rfl, Nat.le_of_ble_eq_true rfl⟩, hX.ts _ (show Cond.static yX4_sideOf ∈ _ by decide +kernel), trivial⟩ rfl rfl rfl ⟨Nat.le_of_ble_eq_true rfl, Nat.le_of_ble_eq_true rfl⟩ dX3_findPlays_26 rfl (fun z4 hz4 => ?_)
      refine ev_iload_n hX dX3_findPlays_29 rfl ?_
      refine ev_icmp_ne (tgt := 37) hX dX3_findPlays_30 (by decide) ?_ ?_
      · refine ev_iconst hX dX3_findPlays_37 (v := 0) (by decide +kernel) ?_
        refine ev_mask [true, true, true, true, false, false] (L' := [some (.inr (.inl 4)), some (.inl x1), some (.inl x2), some (.inl x3), none, none]) rfl rfl ?_
        exact e_X3_findPlays_38 hX hr (fun x1' x2' x3' w' => f_X3_findPlays_12 n x1' x2' x3' w') (fun x1' x2' x3' w' => ih x1' x2' x3' w') x1 x2 x3 0 z4.2
      · refine ev_iconst hX dX3_findPlays_33 (v := 1) (by decide +kernel) ?_
        refine ev_goto (tgt := 38) hX dX3_findPlays_34 (by decide) ?_
        refine ev_mask [true, true, true, true, false, false] (L' := [some (.inr (.inl 4)), some (.inl x1), some (.inl x2), some (.inl x3), none, none]) rfl rfl ?_
        exact e_X3_findPlays_38 hX hr (fun x1' x2' x3' w' => f_X3_findPlays_12 n x1' x2' x3' w') (fun x1' x2' x3' w' => ih x1' x2' x3' w') x1 x2 x3 1 z4.2
set_option maxHeartbeats 4000000 in
set_option maxRecDepth 100000 in
theorem c_X3_findPlays (l : Launch) (D : va_G) (cI cC : ClassId) (td : Nat → Option Nat) (w : mvW) : ∀ z, f_X3_findPlays w = some z → mv_Ci l D vwCl cI cC tbX td yX3_findPlays wsX3_findPlays rm_X3_findPlays shX w [.inr (.inl 4)] z := by
  refine mv_starti (own := RX3) rfl (by decide) rfl rfl (L0 := [some (.inr (.inl 4)), none, none, none, none, none]) rfl (fun p e s m args below meth c A ad0 hX hr => ?_)
  rw [f_X3_findPlays]
  refine ev_aload_n hX dX3_findPlays_0 rfl ?_
  refine ev_getr (k := 0) hX (T := TX3) in_X3_findPlays_X3 rfl rfl rfl (show Cond.fieldLink RX3 28 "FiveShogi$Rules" "position" "LFiveShogi$Position;" ∈ _ by decide +kernel) rfl dX3_findPlays_1 ?_
  refine ev_callVi hX (k0 := 1) (As := []) (rm := rm_X2_sideToPlay) (c_X2_sideToPlay l D cI cC td w) (cwV 0 hX.ts gX3_findPlays_X2_sideToPlay rfl rfl rfl (by decide +kernel) ⟨Nat.le_of_ble_eq_true rfl, Nat.le_of_ble_eq_true rfl⟩) rfl rfl rfl rfl rfl rfl ⟨Nat.le_of_ble_eq_true rfl, Nat.le_of_ble_eq_true rfl⟩ dX3_findPlays_4 rfl (fun z1 hz1 => ?_)
  refine ev_istore_n hX dX3_findPlays_7 rfl (L' := [some (.inr (.inl 4)), some (.inl z1.1), none, none, none, none]) rfl ?_
  refine ev_iconst hX dX3_findPlays_8 (v := 0) (by decide +kernel) ?_
  refine ev_istore_n hX dX3_findPlays_9 rfl (L' := [some (.inr (.inl 4)), some (.inl z1.1), some (.inl 0), none, none, none]) rfl ?_
  refine ev_iconst hX dX3_findPlays_10 (v := 0) (by decide +kernel) ?_
  refine ev_istore_n hX dX3_findPlays_11 rfl (L' := [some (.inr (.inl 4)), some (.inl z1.1), some (.inl 0), some (.inl 0), none, none]) rfl ?_
  refine ev_mask [true, true, true, true, false, false] (L' := [some (.inr (.inl 4)), some (.inl z1.1), some (.inl 0), some (.inl 0), none, none]) rfl rfl ?_
  exact e_X3_findPlays_12 hX hr 4096 z1.1 0 0 z1.2
def rm_X3_isMated : Room := { frames := 6, cells := 0, slots := 0, locals := 149 }
set_option maxHeartbeats 4000000 in
set_option maxRecDepth 100000 in
theorem c_X3_isMated (l : Launch) (D : va_G) (cI cC : ClassId) (td : Nat → Option Nat) (w : mvW) : ∀ z, f_X3_isMated w = some z → mv_Ci l D vwCl cI cC tbX td yX3_isMated wsX3_isMated rm_X3_isMated shX w [.inr (.inl 4)] z := by
  refine mv_starti (own := RX3) rfl (by decide) rfl rfl (L0 := [some (.inr (.inl 4))]) rfl (fun p e s m args below meth c A ad0 hX hr => ?_)
  rw [f_X3_isMated]
  refine ev_aload_n hX dX3_isMated_0 rfl ?_
  refine ev_callVi hX (k0 := 4) (As := []) (rm := rm_X3_isInCheck) (c_X3_isInCheck l D cI cC td w) (cwV 0 hX.ts gX3_isMated_X3_isInCheck rfl rfl rfl (by decide +kernel) ⟨Nat.le_of_ble_eq_true rfl, Nat.le_of_ble_eq_true rfl⟩) rfl rfl rfl rfl rfl rfl ⟨Nat.le_of_ble_eq_true rfl, Nat.le_of_ble_eq_true rfl⟩ dX3_isMated_1 rfl (fun z1 hz1 => ?_)
  refine ev_if_eq (tgt := 18) hX dX3_isMated_4 (by decide) ?_ ?_
  · refine ev_iconst hX dX3_isMated_18 (v := 0) (by decide +kernel) ?_
    exact ev_iretz0 hX hr dX3_isMated_19
  · refine ev_aload_n hX dX3_isMated_7 rfl ?_
    refine ev_callVi hX (k0 := 4) (As := []) (rm := rm_X3_findPlays) (c_X3_findPlays l D cI cC td z1.2) (cwV 0 hX.ts gX3_isMated_X3_findPlays rfl rfl rfl (by decide +kernel) ⟨Nat.le_of_ble_eq_true rfl, Nat.le_of_ble_eq_true rfl⟩) rfl rfl rfl rfl rfl rfl ⟨Nat.le_of_ble_eq_true rfl, Nat.le_of_ble_eq_true rfl⟩ dX3_isMated_8 rfl (fun z2 hz2 => ?_)
    refine ev_if_ne (tgt := 18) hX dX3_isMated_11 (by decide) ?_ ?_
    · refine ev_iconst hX dX3_isMated_18 (v := 0) (by decide +kernel) ?_
      exact ev_iretz0 hX hr dX3_isMated_19
    · refine ev_iconst hX dX3_isMated_14 (v := 1) (by decide +kernel) ?_
      refine ev_goto (tgt := 19) hX dX3_isMated_15 (by decide) ?_
      exact ev_iretz1 hX hr dX3_isMated_19
def rm_X2_playsMade : Room := { frames := 0, cells := 0, slots := 0, locals := 0 }
set_option maxRecDepth 20000 in
theorem in_X2_playsMade_X2 : ∀ w ∈ u_ws RX2 TX2 2, w ∈ wsX2_playsMade := by decide +kernel
set_option maxHeartbeats 4000000 in
set_option maxRecDepth 100000 in
theorem c_X2_playsMade (l : Launch) (D : va_G) (cI cC : ClassId) (td : Nat → Option Nat) (w : mvW) : ∀ z, f_X2_playsMade w = some z → mv_Ci l D vwCl cI cC tbX td yX2_playsMade wsX2_playsMade rm_X2_playsMade shX w [.inr (.inl 1)] z := by
  refine mv_starti (own := RX2) rfl (by decide) rfl rfl (L0 := [some (.inr (.inl 1))]) rfl (fun p e s m args below meth c A ad0 hX hr => ?_)
  rw [f_X2_playsMade]
  refine ev_aload_n hX dX2_playsMade_0 rfl ?_
  refine ev_getr (k := 0) hX (T := TX2) in_X2_playsMade_X2 rfl rfl rfl (show Cond.fieldLink RX2 11 "FiveShogi$Position" "state" "[I" ∈ _ by decide +kernel) rfl dX2_playsMade_1 ?_
  refine ev_bipush hX dX2_playsMade_4 (v := 40) (by decide +kernel) ?_
  refine ev_ialdc (j := 40) hX rfl (by decide +kernel) dX2_playsMade_6 ?_
  exact ev_ireti hX hr dX2_playsMade_7
def rm_X2_menTaken : Room := { frames := 0, cells := 0, slots := 0, locals := 0 }
set_option maxRecDepth 20000 in
theorem in_X2_menTaken_X2 : ∀ w ∈ u_ws RX2 TX2 2, w ∈ wsX2_menTaken := by decide +kernel
set_option maxHeartbeats 4000000 in
set_option maxRecDepth 100000 in
theorem c_X2_menTaken (l : Launch) (D : va_G) (cI cC : ClassId) (td : Nat → Option Nat) (w : mvW) : ∀ z, f_X2_menTaken w = some z → mv_Ci l D vwCl cI cC tbX td yX2_menTaken wsX2_menTaken rm_X2_menTaken shX w [.inr (.inl 1)] z := by
  refine mv_starti (own := RX2) rfl (by decide) rfl rfl (L0 := [some (.inr (.inl 1))]) rfl (fun p e s m args below meth c A ad0 hX hr => ?_)
  rw [f_X2_menTaken]
  refine ev_aload_n hX dX2_menTaken_0 rfl ?_
  refine ev_getr (k := 0) hX (T := TX2) in_X2_menTaken_X2 rfl rfl rfl (show Cond.fieldLink RX2 11 "FiveShogi$Position" "state" "[I" ∈ _ by decide +kernel) rfl dX2_menTaken_1 ?_
  refine ev_bipush hX dX2_menTaken_4 (v := 41) (by decide +kernel) ?_
  refine ev_ialdc (j := 41) hX rfl (by decide +kernel) dX2_menTaken_6 ?_
  exact ev_ireti hX hr dX2_menTaken_7
def rm_X2_menPromoted : Room := { frames := 0, cells := 0, slots := 0, locals := 0 }
set_option maxRecDepth 20000 in
theorem in_X2_menPromoted_X2 : ∀ w ∈ u_ws RX2 TX2 2, w ∈ wsX2_menPromoted := by decide +kernel
set_option maxHeartbeats 4000000 in
set_option maxRecDepth 100000 in
theorem c_X2_menPromoted (l : Launch) (D : va_G) (cI cC : ClassId) (td : Nat → Option Nat) (w : mvW) : ∀ z, f_X2_menPromoted w = some z → mv_Ci l D vwCl cI cC tbX td yX2_menPromoted wsX2_menPromoted rm_X2_menPromoted shX w [.inr (.inl 1)] z := by
  refine mv_starti (own := RX2) rfl (by decide) rfl rfl (L0 := [some (.inr (.inl 1))]) rfl (fun p e s m args below meth c A ad0 hX hr => ?_)
  rw [f_X2_menPromoted]
  refine ev_aload_n hX dX2_menPromoted_0 rfl ?_
  refine ev_getr (k := 0) hX (T := TX2) in_X2_menPromoted_X2 rfl rfl rfl (show Cond.fieldLink RX2 11 "FiveShogi$Position" "state" "[I" ∈ _ by decide +kernel) rfl dX2_menPromoted_1 ?_
  refine ev_bipush hX dX2_menPromoted_4 (v := 42) (by decide +kernel) ?_
  refine ev_ialdc (j := 42) hX rfl (by decide +kernel) dX2_menPromoted_6 ?_
  exact ev_ireti hX hr dX2_menPromoted_7
def rm_X2_menDropped : Room := { frames := 0, cells := 0, slots := 0, locals := 0 }
set_option maxRecDepth 20000 in
theorem in_X2_menDropped_X2 : ∀ w ∈ u_ws RX2 TX2 2, w ∈ wsX2_menDropped := by decide +kernel
set_option maxHeartbeats 4000000 in
set_option maxRecDepth 100000 in
theorem c_X2_menDropped (l : Launch) (D : va_G) (cI cC : ClassId) (td : Nat → Option Nat) (w : mvW) : ∀ z, f_X2_menDropped w = some z → mv_Ci l D vwCl cI cC tbX td yX2_menDropped wsX2_menDropped rm_X2_menDropped shX w [.inr (.inl 1)] z := by
  refine mv_starti (own := RX2) rfl (by decide) rfl rfl (L0 := [some (.inr (.inl 1))]) rfl (fun p e s m args below meth c A ad0 hX hr => ?_)
  rw [f_X2_menDropped]
  refine ev_aload_n hX dX2_menDropped_0 rfl ?_
  refine ev_getr (k := 0) hX (T := TX2) in_X2_menDropped_X2 rfl rfl rfl (show Cond.fieldLink RX2 11 "FiveShogi$Position" "state" "[I" ∈ _ by decide +kernel) rfl dX2_menDropped_1 ?_
  refine ev_bipush hX dX2_menDropped_4 (v := 43) (by decide +kernel) ?_
  refine ev_ialdc (j := 43) hX rfl (by decide +kernel) dX2_menDropped_6 ?_
  exact ev_ireti hX hr dX2_menDropped_7
def rm_X0_size : Room := { frames := 0, cells := 0, slots := 0, locals := 0 }
set_option maxRecDepth 20000 in
theorem in_X0_size_X0 : ∀ w ∈ u_ws RX0 TX0 2, w ∈ wsX0_size := by decide +kernel
set_option maxHeartbeats 4000000 in
set_option maxRecDepth 100000 in
theorem c_X0_size (l : Launch) (D : va_G) (cI cC : ClassId) (td : Nat → Option Nat) (w : mvW) : ∀ z, f_X0_size w = some z → mv_Ci l D vwCl cI cC tbX td yX0_size wsX0_size rm_X0_size shX w [.inr (.inl 9)] z := by
  refine mv_starti (own := RX0) rfl (by decide) rfl rfl (L0 := [some (.inr (.inl 9))]) rfl (fun p e s m args below meth c A ad0 hX hr => ?_)
  rw [f_X0_size]
  refine ev_aload_n hX dX0_size_0 rfl ?_
  refine ev_get (k := 1) hX (T := TX0) in_X0_size_X0 rfl rfl rfl (show Cond.fieldLink RX0 15 "FiveShogi$History" "size" "I" ∈ _ by decide +kernel) rfl dX0_size_1 ?_
  exact ev_ireti hX hr dX0_size_4
def rm_X1_size : Room := { frames := 0, cells := 0, slots := 0, locals := 0 }
set_option maxRecDepth 20000 in
theorem in_X1_size_X1 : ∀ w ∈ u_ws RX1 TX1 5, w ∈ wsX1_size := by decide +kernel
set_option maxHeartbeats 4000000 in
set_option maxRecDepth 100000 in
theorem c_X1_size (l : Launch) (D : va_G) (cI cC : ClassId) (td : Nat → Option Nat) (w : mvW) : ∀ z, f_X1_size w = some z → mv_Ci l D vwCl cI cC tbX td yX1_size wsX1_size rm_X1_size shX w [.inr (.inl 11)] z := by
  refine mv_starti (own := RX1) rfl (by decide) rfl rfl (L0 := [some (.inr (.inl 11))]) rfl (fun p e s m args below meth c A ad0 hX hr => ?_)
  rw [f_X1_size]
  refine ev_aload_n hX dX1_size_0 rfl ?_
  refine ev_get (k := 1) hX (T := TX1) in_X1_size_X1 rfl rfl rfl (show Cond.fieldLink RX1 15 "FiveShogi$PlayText" "size" "I" ∈ _ by decide +kernel) rfl dX1_size_1 ?_
  exact ev_ireti hX hr dX1_size_4
def rm_X4_total : Room := { frames := 7, cells := 0, slots := 0, locals := 169 }
set_option maxRecDepth 20000 in
theorem in_X4_total_X4 : ∀ w ∈ u_ws RX4 TX4 7, w ∈ wsX4_total := by decide +kernel
set_option maxHeartbeats 4000000 in
set_option maxRecDepth 100000 in
theorem c_X4_total (l : Launch) (D : va_G) (cI cC : ClassId) (td : Nat → Option Nat) (a1 : Int32) (w : mvW) : ∀ z, f_X4_total a1 w = some z → mv_Ci l D vwCl cI cC tbX td yX4_total wsX4_total rm_X4_total shX w [.inr (.inl 0), .inl a1] z := by
  refine mv_starti (own := RX4) rfl (by decide) rfl rfl (L0 := [some (.inr (.inl 0)), some (.inl a1)]) rfl (fun p e s m args below meth c A ad0 hX hr => ?_)
  rw [f_X4_total]
  refine ev_iload_n hX dX4_total_0 rfl ?_
  refine ev_case 0 (fun c_1_0 => ?_) (fun c_1_0 => ?_)
  · refine ev_tsIn (tgt := 72) hX dX4_total_1 c_1_0 rfl rfl rfl (by decide) ?_
    refine ev_aload_n hX dX4_total_72 rfl ?_
    refine ev_getr (k := 0) hX (T := TX4) in_X4_total_X4 rfl rfl rfl (show Cond.fieldLink RX4 12 "FiveShogi" "position" "LFiveShogi$Position;" ∈ _ by decide +kernel) rfl dX4_total_73 ?_
    refine ev_callVi hX (k0 := 1) (As := []) (rm := rm_X2_sideToPlay) (c_X2_sideToPlay l D cI cC td w) (cwV 0 hX.ts gX4_total_X2_sideToPlay rfl rfl rfl (by decide +kernel) ⟨Nat.le_of_ble_eq_true rfl, Nat.le_of_ble_eq_true rfl⟩) rfl rfl rfl rfl rfl rfl ⟨Nat.le_of_ble_eq_true rfl, Nat.le_of_ble_eq_true rfl⟩ dX4_total_76 rfl (fun z1 hz1 => ?_)
    exact ev_ireti hX hr dX4_total_79
  · refine ev_case 1 (fun c_1_1 => ?_) (fun c_1_1 => ?_)
    · refine ev_tsIn (tgt := 80) hX dX4_total_1 c_1_1 rfl rfl rfl (by decide) ?_
      refine ev_aload_n hX dX4_total_80 rfl ?_
      refine ev_getr (k := 0) hX (T := TX4) in_X4_total_X4 rfl rfl rfl (show Cond.fieldLink RX4 12 "FiveShogi" "position" "LFiveShogi$Position;" ∈ _ by decide +kernel) rfl dX4_total_81 ?_
      refine ev_callVi hX (k0 := 1) (As := []) (rm := rm_X2_menOnBoard) (c_X2_menOnBoard l D cI cC td w) (cwV 0 hX.ts gX4_total_X2_menOnBoard rfl rfl rfl (by decide +kernel) ⟨Nat.le_of_ble_eq_true rfl, Nat.le_of_ble_eq_true rfl⟩) rfl rfl rfl rfl rfl rfl ⟨Nat.le_of_ble_eq_true rfl, Nat.le_of_ble_eq_true rfl⟩ dX4_total_84 rfl (fun z2 hz2 => ?_)
      exact ev_ireti hX hr dX4_total_87
    · refine ev_case 2 (fun c_1_2 => ?_) (fun c_1_2 => ?_)
      · refine ev_tsIn (tgt := 88) hX dX4_total_1 c_1_2 rfl rfl rfl (by decide) ?_
        refine ev_aload_n hX dX4_total_88 rfl ?_
        refine ev_getr (k := 0) hX (T := TX4) in_X4_total_X4 rfl rfl rfl (show Cond.fieldLink RX4 12 "FiveShogi" "position" "LFiveShogi$Position;" ∈ _ by decide +kernel) rfl dX4_total_89 ?_
        refine ev_iconst hX dX4_total_92 (v := 0) (by decide +kernel) ?_
        refine ev_callVi hX (k0 := 1) (As := [.inl 0]) (rm := rm_X2_menInHand) (c_X2_menInHand l D cI cC td 0 w) (cwV 1 hX.ts gX4_total_X2_menInHand rfl rfl rfl (by decide +kernel) ⟨Nat.le_of_ble_eq_true rfl, Nat.le_of_ble_eq_true rfl⟩) rfl rfl rfl rfl rfl rfl ⟨Nat.le_of_ble_eq_true rfl, Nat.le_of_ble_eq_true rfl⟩ dX4_total_93 rfl (fun z3 hz3 => ?_)
        exact ev_ireti hX hr dX4_total_96
      · refine ev_case 3 (fun c_1_3 => ?_) (fun c_1_3 => ?_)
        · refine ev_tsIn (tgt := 97) hX dX4_total_1 c_1_3 rfl rfl rfl (by decide) ?_
          refine ev_aload_n hX dX4_total_97 rfl ?_
          refine ev_getr (k := 0) hX (T := TX4) in_X4_total_X4 rfl rfl rfl (show Cond.fieldLink RX4 12 "FiveShogi" "position" "LFiveShogi$Position;" ∈ _ by decide +kernel) rfl dX4_total_98 ?_
          refine ev_iconst hX dX4_total_101 (v := 1) (by decide +kernel) ?_
          refine ev_callVi hX (k0 := 1) (As := [.inl 1]) (rm := rm_X2_menInHand) (c_X2_menInHand l D cI cC td 1 w) (cwV 1 hX.ts gX4_total_X2_menInHand rfl rfl rfl (by decide +kernel) ⟨Nat.le_of_ble_eq_true rfl, Nat.le_of_ble_eq_true rfl⟩) rfl rfl rfl rfl rfl rfl ⟨Nat.le_of_ble_eq_true rfl, Nat.le_of_ble_eq_true rfl⟩ dX4_total_102 rfl (fun z4 hz4 => ?_)
          exact ev_ireti hX hr dX4_total_105
        · refine ev_case 4 (fun c_1_4 => ?_) (fun c_1_4 => ?_)
          · refine ev_tsIn (tgt := 106) hX dX4_total_1 c_1_4 rfl rfl rfl (by decide) ?_
            refine ev_aload_n hX dX4_total_106 rfl ?_
            refine ev_getr (k := 1) hX (T := TX4) in_X4_total_X4 rfl rfl rfl (show Cond.fieldLink RX4 21 "FiveShogi" "rules" "LFiveShogi$Rules;" ∈ _ by decide +kernel) rfl dX4_total_107 ?_
            refine ev_callVi hX (k0 := 4) (As := []) (rm := rm_X3_isInCheck) (c_X3_isInCheck l D cI cC td w) (cwV 0 hX.ts gX4_total_X3_isInCheck rfl rfl rfl (by decide +kernel) ⟨Nat.le_of_ble_eq_true rfl, Nat.le_of_ble_eq_true rfl⟩) rfl rfl rfl rfl rfl rfl ⟨Nat.le_of_ble_eq_true rfl, Nat.le_of_ble_eq_true rfl⟩ dX4_total_110 rfl (fun z5 hz5 => ?_)
            refine ev_callSi hX (As := [.inl z5.1]) (rm := rm_X4_asNumber) (c_X4_asNumber l D cI cC td z5.1 z5.2) (cwS 1 hX.ts gX4_total_X4_asNumber rfl rfl rfl (by decide +kernel) ⟨Nat.le_of_ble_eq_true rfl, Nat.le_of_ble_eq_true rfl⟩) rfl rfl rfl ⟨Nat.le_of_ble_eq_true rfl, Nat.le_of_ble_eq_true rfl⟩ dX4_total_113 rfl (fun z6 hz6 => ?_)
            exact ev_ireti hX hr dX4_total_116
          · refine ev_case 5 (fun c_1_5 => ?_) (fun c_1_5 => ?_)
            · refine ev_tsIn (tgt := 117) hX dX4_total_1 c_1_5 rfl rfl rfl (by decide) ?_
              refine ev_aload_n hX dX4_total_117 rfl ?_
              refine ev_getr (k := 1) hX (T := TX4) in_X4_total_X4 rfl rfl rfl (show Cond.fieldLink RX4 21 "FiveShogi" "rules" "LFiveShogi$Rules;" ∈ _ by decide +kernel) rfl dX4_total_118 ?_
              refine ev_callVi hX (k0 := 4) (As := []) (rm := rm_X3_isMated) (c_X3_isMated l D cI cC td w) (cwV 0 hX.ts gX4_total_X3_isMated rfl rfl rfl (by decide +kernel) ⟨Nat.le_of_ble_eq_true rfl, Nat.le_of_ble_eq_true rfl⟩) rfl rfl rfl rfl rfl rfl ⟨Nat.le_of_ble_eq_true rfl, Nat.le_of_ble_eq_true rfl⟩ dX4_total_121 rfl (fun z7 hz7 => ?_)
              refine ev_callSi hX (As := [.inl z7.1]) (rm := rm_X4_asNumber) (c_X4_asNumber l D cI cC td z7.1 z7.2) (cwS 1 hX.ts gX4_total_X4_asNumber rfl rfl rfl (by decide +kernel) ⟨Nat.le_of_ble_eq_true rfl, Nat.le_of_ble_eq_true rfl⟩) rfl rfl rfl ⟨Nat.le_of_ble_eq_true rfl, Nat.le_of_ble_eq_true rfl⟩ dX4_total_124 rfl (fun z8 hz8 => ?_)
              exact ev_ireti hX hr dX4_total_127
            · refine ev_case 6 (fun c_1_6 => ?_) (fun c_1_6 => ?_)
              · refine ev_tsIn (tgt := 128) hX dX4_total_1 c_1_6 rfl rfl rfl (by decide) ?_
                refine ev_aload_n hX dX4_total_128 rfl ?_
                refine ev_getr (k := 1) hX (T := TX4) in_X4_total_X4 rfl rfl rfl (show Cond.fieldLink RX4 21 "FiveShogi" "rules" "LFiveShogi$Rules;" ∈ _ by decide +kernel) rfl dX4_total_129 ?_
                refine ev_callVi hX (k0 := 4) (As := []) (rm := rm_X3_findPlays) (c_X3_findPlays l D cI cC td w) (cwV 0 hX.ts gX4_total_X3_findPlays rfl rfl rfl (by decide +kernel) ⟨Nat.le_of_ble_eq_true rfl, Nat.le_of_ble_eq_true rfl⟩) rfl rfl rfl rfl rfl rfl ⟨Nat.le_of_ble_eq_true rfl, Nat.le_of_ble_eq_true rfl⟩ dX4_total_132 rfl (fun z9 hz9 => ?_)
                refine ev_if_ne (tgt := 142) hX dX4_total_135 (by decide) ?_ ?_
                · refine ev_iconst hX dX4_total_142 (v := 0) (by decide +kernel) ?_
                  refine ev_callSi hX (As := [.inl 0]) (rm := rm_X4_asNumber) (c_X4_asNumber l D cI cC td 0 z9.2) (cwS 1 hX.ts gX4_total_X4_asNumber rfl rfl rfl (by decide +kernel) ⟨Nat.le_of_ble_eq_true rfl, Nat.le_of_ble_eq_true rfl⟩) rfl rfl rfl ⟨Nat.le_of_ble_eq_true rfl, Nat.le_of_ble_eq_true rfl⟩ dX4_total_143 rfl (fun z10 hz10 => ?_)
                  exact ev_ireti hX hr dX4_total_146
                · refine ev_iconst hX dX4_total_138 (v := 1) (by decide +kernel) ?_
                  refine ev_goto (tgt := 143) hX dX4_total_139 (by decide) ?_
                  refine ev_callSi hX (As := [.inl 1]) (rm := rm_X4_asNumber) (c_X4_asNumber l D cI cC td 1 z9.2) (cwS 1 hX.ts gX4_total_X4_asNumber rfl rfl rfl (by decide +kernel) ⟨Nat.le_of_ble_eq_true rfl, Nat.le_of_ble_eq_true rfl⟩) rfl rfl rfl ⟨Nat.le_of_ble_eq_true rfl, Nat.le_of_ble_eq_true rfl⟩ dX4_total_143 rfl (fun z11 hz11 => ?_)
                  exact ev_ireti hX hr dX4_total_146
              · refine ev_case 7 (fun c_1_7 => ?_) (fun c_1_7 => ?_)
                · refine ev_tsIn (tgt := 147) hX dX4_total_1 c_1_7 rfl rfl rfl (by decide) ?_
                  refine ev_aload_n hX dX4_total_147 rfl ?_
                  refine ev_getr (k := 1) hX (T := TX4) in_X4_total_X4 rfl rfl rfl (show Cond.fieldLink RX4 21 "FiveShogi" "rules" "LFiveShogi$Rules;" ∈ _ by decide +kernel) rfl dX4_total_148 ?_
                  refine ev_callVi hX (k0 := 4) (As := []) (rm := rm_X3_findPlays) (c_X3_findPlays l D cI cC td w) (cwV 0 hX.ts gX4_total_X3_findPlays rfl rfl rfl (by decide +kernel) ⟨Nat.le_of_ble_eq_true rfl, Nat.le_of_ble_eq_true rfl⟩) rfl rfl rfl rfl rfl rfl ⟨Nat.le_of_ble_eq_true rfl, Nat.le_of_ble_eq_true rfl⟩ dX4_total_151 rfl (fun z12 hz12 => ?_)
                  exact ev_ireti hX hr dX4_total_154
                · refine ev_case 8 (fun c_1_8 => ?_) (fun c_1_8 => ?_)
                  · refine ev_tsIn (tgt := 155) hX dX4_total_1 c_1_8 rfl rfl rfl (by decide) ?_
                    refine ev_aload_n hX dX4_total_155 rfl ?_
                    refine ev_getr (k := 0) hX (T := TX4) in_X4_total_X4 rfl rfl rfl (show Cond.fieldLink RX4 12 "FiveShogi" "position" "LFiveShogi$Position;" ∈ _ by decide +kernel) rfl dX4_total_156 ?_
                    refine ev_callVi hX (k0 := 1) (As := []) (rm := rm_X2_playsMade) (c_X2_playsMade l D cI cC td w) (cwV 0 hX.ts gX4_total_X2_playsMade rfl rfl rfl (by decide +kernel) ⟨Nat.le_of_ble_eq_true rfl, Nat.le_of_ble_eq_true rfl⟩) rfl rfl rfl rfl rfl rfl ⟨Nat.le_of_ble_eq_true rfl, Nat.le_of_ble_eq_true rfl⟩ dX4_total_159 rfl (fun z13 hz13 => ?_)
                    exact ev_ireti hX hr dX4_total_162
                  · refine ev_case 9 (fun c_1_9 => ?_) (fun c_1_9 => ?_)
                    · refine ev_tsIn (tgt := 163) hX dX4_total_1 c_1_9 rfl rfl rfl (by decide) ?_
                      refine ev_aload_n hX dX4_total_163 rfl ?_
                      refine ev_getr (k := 0) hX (T := TX4) in_X4_total_X4 rfl rfl rfl (show Cond.fieldLink RX4 12 "FiveShogi" "position" "LFiveShogi$Position;" ∈ _ by decide +kernel) rfl dX4_total_164 ?_
                      refine ev_callVi hX (k0 := 1) (As := []) (rm := rm_X2_menTaken) (c_X2_menTaken l D cI cC td w) (cwV 0 hX.ts gX4_total_X2_menTaken rfl rfl rfl (by decide +kernel) ⟨Nat.le_of_ble_eq_true rfl, Nat.le_of_ble_eq_true rfl⟩) rfl rfl rfl rfl rfl rfl ⟨Nat.le_of_ble_eq_true rfl, Nat.le_of_ble_eq_true rfl⟩ dX4_total_167 rfl (fun z14 hz14 => ?_)
                      exact ev_ireti hX hr dX4_total_170
                    · refine ev_case 10 (fun c_1_10 => ?_) (fun c_1_10 => ?_)
                      · refine ev_tsIn (tgt := 171) hX dX4_total_1 c_1_10 rfl rfl rfl (by decide) ?_
                        refine ev_aload_n hX dX4_total_171 rfl ?_
                        refine ev_getr (k := 0) hX (T := TX4) in_X4_total_X4 rfl rfl rfl (show Cond.fieldLink RX4 12 "FiveShogi" "position" "LFiveShogi$Position;" ∈ _ by decide +kernel) rfl dX4_total_172 ?_
                        refine ev_callVi hX (k0 := 1) (As := []) (rm := rm_X2_menPromoted) (c_X2_menPromoted l D cI cC td w) (cwV 0 hX.ts gX4_total_X2_menPromoted rfl rfl rfl (by decide +kernel) ⟨Nat.le_of_ble_eq_true rfl, Nat.le_of_ble_eq_true rfl⟩) rfl rfl rfl rfl rfl rfl ⟨Nat.le_of_ble_eq_true rfl, Nat.le_of_ble_eq_true rfl⟩ dX4_total_175 rfl (fun z15 hz15 => ?_)
                        exact ev_ireti hX hr dX4_total_178
                      · refine ev_case 11 (fun c_1_11 => ?_) (fun c_1_11 => ?_)
                        · refine ev_tsIn (tgt := 179) hX dX4_total_1 c_1_11 rfl rfl rfl (by decide) ?_
                          refine ev_aload_n hX dX4_total_179 rfl ?_
                          refine ev_getr (k := 0) hX (T := TX4) in_X4_total_X4 rfl rfl rfl (show Cond.fieldLink RX4 12 "FiveShogi" "position" "LFiveShogi$Position;" ∈ _ by decide +kernel) rfl dX4_total_180 ?_
                          refine ev_callVi hX (k0 := 1) (As := []) (rm := rm_X2_menDropped) (c_X2_menDropped l D cI cC td w) (cwV 0 hX.ts gX4_total_X2_menDropped rfl rfl rfl (by decide +kernel) ⟨Nat.le_of_ble_eq_true rfl, Nat.le_of_ble_eq_true rfl⟩) rfl rfl rfl rfl rfl rfl ⟨Nat.le_of_ble_eq_true rfl, Nat.le_of_ble_eq_true rfl⟩ dX4_total_183 rfl (fun z16 hz16 => ?_)
                          exact ev_ireti hX hr dX4_total_186
                        · refine ev_case 12 (fun c_1_12 => ?_) (fun c_1_12 => ?_)
                          · refine ev_tsIn (tgt := 187) hX dX4_total_1 c_1_12 rfl rfl rfl (by decide) ?_
                            refine ev_aload_n hX dX4_total_187 rfl ?_
                            refine ev_getr (k := 2) hX (T := TX4) in_X4_total_X4 rfl rfl rfl (show Cond.fieldLink RX4 28 "FiveShogi" "history" "LFiveShogi$History;" ∈ _ by decide +kernel) rfl dX4_total_188 ?_
                            refine ev_callVi hX (k0 := 9) (As := []) (rm := rm_X0_size) (c_X0_size l D cI cC td w) (cwV 0 hX.ts gX4_total_X0_size rfl rfl rfl (by decide +kernel) ⟨Nat.le_of_ble_eq_true rfl, Nat.le_of_ble_eq_true rfl⟩) rfl rfl rfl rfl rfl rfl ⟨Nat.le_of_ble_eq_true rfl, Nat.le_of_ble_eq_true rfl⟩ dX4_total_191 rfl (fun z17 hz17 => ?_)
                            exact ev_ireti hX hr dX4_total_194
                          · refine ev_case 13 (fun c_1_13 => ?_) (fun c_1_13 => ?_)
                            · refine ev_tsIn (tgt := 195) hX dX4_total_1 c_1_13 rfl rfl rfl (by decide) ?_
                              refine ev_aload_n hX dX4_total_195 rfl ?_
                              refine ev_getr (k := 3) hX (T := TX4) in_X4_total_X4 rfl rfl rfl (show Cond.fieldLink RX4 35 "FiveShogi" "text" "LFiveShogi$PlayText;" ∈ _ by decide +kernel) rfl dX4_total_196 ?_
                              refine ev_callVi hX (k0 := 11) (As := []) (rm := rm_X1_size) (c_X1_size l D cI cC td w) (cwV 0 hX.ts gX4_total_X1_size rfl rfl rfl (by decide +kernel) ⟨Nat.le_of_ble_eq_true rfl, Nat.le_of_ble_eq_true rfl⟩) rfl rfl rfl rfl rfl rfl ⟨Nat.le_of_ble_eq_true rfl, Nat.le_of_ble_eq_true rfl⟩ dX4_total_199 rfl (fun z18 hz18 => ?_)
                              exact ev_ireti hX hr dX4_total_202
                            · refine ev_tsOut (tgt := 203) hX dX4_total_1 (mv_swout 0 14 (lt_s (lt_s (lt_s (lt_s (lt_s (lt_s (lt_s (lt_s (lt_s (lt_s (lt_s (lt_s (lt_s (lt_s lt_0 c_1_0) c_1_1) c_1_2) c_1_3) c_1_4) c_1_5) c_1_6) c_1_7) c_1_8) c_1_9) c_1_10) c_1_11) c_1_12) c_1_13) (by decide) (by decide) (by decide)) (by decide) ?_
                              refine ev_sipush hX dX4_total_203 (v := (-1002)) (by decide +kernel) ?_
                              exact ev_ireti hX hr dX4_total_206
end
