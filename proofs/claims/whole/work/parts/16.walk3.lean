section
variable {p : Program} {l : Launch} {e : Env} {s : State} {m : MethodId} {args : Array Value} {below : List Frame} {meth : Method} {c : Code} {D : va_G} {cI cC : ClassId} {td : Nat → Option Nat} {A : Nat → Prop} {ad0 : Nat → Nat}
def rm_X4_takeOff : Room := { frames := 3, cells := 0, slots := 0, locals := 82 }
set_option maxRecDepth 20000 in
theorem in_X4_takeOff_X4 : ∀ w ∈ u_ws RX4 TX4 7, w ∈ wsX4_takeOff := by decide +kernel
set_option maxHeartbeats 4000000 in
set_option maxRecDepth 100000 in
theorem c_X4_takeOff (l : Launch) (D : va_G) (cI cC : ClassId) (td : Nat → Option Nat) (a1 : Int32) (w : mvW) : ∀ z, f_X4_takeOff a1 w = some z → mv_Ci l D vwCl cI cC tbX td yX4_takeOff wsX4_takeOff rm_X4_takeOff shX w [.inr (.inl 0), .inl a1] z := by
  refine mv_starti (own := RX4) rfl (by decide) rfl rfl (L0 := [some (.inr (.inl 0)), some (.inl a1), none]) rfl (fun p e s m args below meth c A ad0 hX hr => ?_)
  rw [f_X4_takeOff]
  refine ev_iload_n hX dX4_takeOff_0 rfl ?_
  refine ev_callSi hX (As := [.inl a1]) (rm := rm_X4_isSquare) (c_X4_isSquare l D cI cC td a1 w) (cwS 1 hX.ts gX4_takeOff_X4_isSquare rfl rfl rfl (by decide +kernel) ⟨Nat.le_of_ble_eq_true rfl, Nat.le_of_ble_eq_true rfl⟩) rfl rfl rfl ⟨Nat.le_of_ble_eq_true rfl, Nat.le_of_ble_eq_true rfl⟩ dX4_takeOff_1 rfl (fun z1 hz1 => ?_)
  refine ev_if_ne (tgt := 11) hX dX4_takeOff_4 (by decide) ?_ ?_
  · refine ev_aload_n hX dX4_takeOff_11 rfl ?_
    refine ev_getr (k := 0) hX (T := TX4) in_X4_takeOff_X4 rfl rfl rfl (show Cond.fieldLink RX4 12 "FiveShogi" "position" "LFiveShogi$Position;" ∈ _ by decide +kernel) rfl dX4_takeOff_12 ?_
    refine ev_iload_n hX dX4_takeOff_15 rfl ?_
    refine ev_callVi hX (k0 := 1) (As := [.inl a1]) (rm := rm_X2_manOn) (c_X2_manOn l D cI cC td a1 z1.2) (cwV 1 hX.ts gX4_takeOff_X2_manOn rfl rfl rfl (by decide +kernel) ⟨Nat.le_of_ble_eq_true rfl, Nat.le_of_ble_eq_true rfl⟩) rfl rfl rfl rfl rfl rfl ⟨Nat.le_of_ble_eq_true rfl, Nat.le_of_ble_eq_true rfl⟩ dX4_takeOff_16 rfl (fun z2 hz2 => ?_)
    refine ev_istore_n hX dX4_takeOff_19 rfl (L' := [some (.inr (.inl 0)), some (.inl a1), some (.inl z2.1)]) rfl ?_
    refine ev_iload_n hX dX4_takeOff_20 rfl ?_
    refine ev_bipush hX dX4_takeOff_21 (v := 99) (by decide +kernel) ?_
    refine ev_icmp_ne (tgt := 30) hX dX4_takeOff_23 (by decide) ?_ ?_
    · refine ev_aload_n hX dX4_takeOff_30 rfl ?_
      refine ev_callVv hX (k0 := 0) (As := []) (rm := rm_X4_recordChange) (c_X4_recordChange l D cI cC td z2.2) (cwV 0 hX.ts gX4_takeOff_X4_recordChange rfl rfl rfl (by decide +kernel) ⟨Nat.le_of_ble_eq_true rfl, Nat.le_of_ble_eq_true rfl⟩) rfl rfl rfl rfl rfl rfl ⟨Nat.le_of_ble_eq_true rfl, Nat.le_of_ble_eq_true rfl⟩ dX4_takeOff_31 rfl (fun z3 hz3 => ?_)
      refine ev_aload_n hX dX4_takeOff_34 rfl ?_
      refine ev_getr (k := 0) hX (T := TX4) in_X4_takeOff_X4 rfl rfl rfl (show Cond.fieldLink RX4 12 "FiveShogi" "position" "LFiveShogi$Position;" ∈ _ by decide +kernel) rfl dX4_takeOff_35 ?_
      refine ev_iload_n hX dX4_takeOff_38 rfl ?_
      refine ev_bipush hX dX4_takeOff_39 (v := 99) (by decide +kernel) ?_
      refine ev_callVv hX (k0 := 1) (As := [.inl a1, .inl 99]) (rm := rm_X2_place) (c_X2_place l D cI cC td a1 99 z3) (cwV 2 hX.ts gX4_takeOff_X2_place rfl rfl rfl (by decide +kernel) ⟨Nat.le_of_ble_eq_true rfl, Nat.le_of_ble_eq_true rfl⟩) rfl rfl rfl rfl rfl rfl ⟨Nat.le_of_ble_eq_true rfl, Nat.le_of_ble_eq_true rfl⟩ dX4_takeOff_41 rfl (fun z4 hz4 => ?_)
      refine ev_iload_n hX dX4_takeOff_44 rfl ?_
      exact ev_ireti hX hr dX4_takeOff_45
    · refine ev_sipush hX dX4_takeOff_26 (v := (-1005)) (by decide +kernel) ?_
      exact ev_ireti hX hr dX4_takeOff_29
  · refine ev_sipush hX dX4_takeOff_7 (v := (-1001)) (by decide +kernel) ?_
    exact ev_ireti hX hr dX4_takeOff_10
def rm_X5_takeOff : Room := { frames := 2, cells := 0, slots := 0, locals := 42 }
set_option maxRecDepth 20000 in
theorem in_X5_takeOff_X5 : ∀ w ∈ u_ws RX5 TX5 8, w ∈ wsX5_takeOff := by decide +kernel
set_option maxHeartbeats 4000000 in
set_option maxRecDepth 100000 in
theorem c_X5_takeOff (l : Launch) (D : va_G) (cI cC : ClassId) (td : Nat → Option Nat) (a1 : Int32) (w : mvW) : ∀ z, f_X5_takeOff a1 w = some z → mv_Ci l D vwCl cI cC tbX td yX5_takeOff wsX5_takeOff rm_X5_takeOff shM w [.inr (.inl 0), .inl a1] z := by
  refine mv_starti (own := RX5) rfl (by decide) rfl rfl (L0 := [some (.inr (.inl 0)), some (.inl a1), none]) rfl (fun p e s m args below meth c A ad0 hX hr => ?_)
  rw [f_X5_takeOff]
  refine ev_iload_n hX dX5_takeOff_0 rfl ?_
  refine ev_callSi hX (As := [.inl a1]) (rm := rm_X5_isSquare) (c_X5_isSquare l D cI cC td a1 w) (cwS 1 hX.ts gX5_takeOff_X5_isSquare rfl rfl rfl (by decide +kernel) ⟨Nat.le_of_ble_eq_true rfl, Nat.le_of_ble_eq_true rfl⟩) rfl rfl rfl ⟨Nat.le_of_ble_eq_true rfl, Nat.le_of_ble_eq_true rfl⟩ dX5_takeOff_1 rfl (fun z1 hz1 => ?_)
  refine ev_if_ne (tgt := 11) hX dX5_takeOff_4 (by decide) ?_ ?_
  · refine ev_aload_n hX dX5_takeOff_11 rfl ?_
    refine ev_iconst hX dX5_takeOff_12 (v := 0) (by decide +kernel) ?_
    refine ev_iload_n hX dX5_takeOff_13 rfl ?_
    refine ev_callVi hX (k0 := 0) (As := [.inl 0, .inl a1]) (rm := rm_X5_manAt) (c_X5_manAt l D cI cC td 0 a1 z1.2) (cwV 2 hX.ts gX5_takeOff_X5_manAt rfl rfl rfl (by decide +kernel) ⟨Nat.le_of_ble_eq_true rfl, Nat.le_of_ble_eq_true rfl⟩) rfl rfl rfl rfl rfl rfl ⟨Nat.le_of_ble_eq_true rfl, Nat.le_of_ble_eq_true rfl⟩ dX5_takeOff_14 rfl (fun z2 hz2 => ?_)
    refine ev_istore_n hX dX5_takeOff_17 rfl (L' := [some (.inr (.inl 0)), some (.inl a1), some (.inl z2.1)]) rfl ?_
    refine ev_iload_n hX dX5_takeOff_18 rfl ?_
    refine ev_if_ge (tgt := 26) hX dX5_takeOff_19 (by decide) ?_ ?_
    · refine ev_aload_n hX dX5_takeOff_26 rfl ?_
      refine ev_callVv hX (k0 := 0) (As := []) (rm := rm_X5_remembers) (c_X5_remembers l D cI cC td z2.2) (cwV 0 hX.ts gX5_takeOff_X5_remembers rfl rfl rfl (by decide +kernel) ⟨Nat.le_of_ble_eq_true rfl, Nat.le_of_ble_eq_true rfl⟩) rfl rfl rfl rfl rfl rfl ⟨Nat.le_of_ble_eq_true rfl, Nat.le_of_ble_eq_true rfl⟩ dX5_takeOff_27 rfl (fun z3 hz3 => ?_)
      refine ev_aload_n hX dX5_takeOff_30 rfl ?_
      refine ev_getr (k := 0) hX (T := TX5) in_X5_takeOff_X5 rfl rfl rfl (show Cond.fieldLink RX5 7 "FiveShogiModel" "s" "[I" ∈ _ by decide +kernel) rfl dX5_takeOff_31 ?_
      refine ev_iload_n hX dX5_takeOff_34 rfl ?_
      refine ev_iconst hX dX5_takeOff_35 (v := 0) (by decide +kernel) ?_
      refine ev_iast hX rfl dX5_takeOff_36 (fun j4 => ?_)
      refine ev_iload_n hX dX5_takeOff_37 rfl ?_
      exact ev_ireti hX hr dX5_takeOff_38
    · refine ev_sipush hX dX5_takeOff_22 (v := (-1005)) (by decide +kernel) ?_
      exact ev_ireti hX hr dX5_takeOff_25
  · refine ev_sipush hX dX5_takeOff_7 (v := (-1001)) (by decide +kernel) ?_
    exact ev_ireti hX hr dX5_takeOff_10
def rm_X4_setHand : Room := { frames := 3, cells := 0, slots := 0, locals := 82 }
set_option maxRecDepth 20000 in
theorem in_X4_setHand_X4 : ∀ w ∈ u_ws RX4 TX4 7, w ∈ wsX4_setHand := by decide +kernel
set_option maxHeartbeats 4000000 in
set_option maxRecDepth 100000 in
theorem c_X4_setHand (l : Launch) (D : va_G) (cI cC : ClassId) (td : Nat → Option Nat) (a1 : Int32) (a2 : Int32) (a3 : Int32) (w : mvW) : ∀ z, f_X4_setHand a1 a2 a3 w = some z → mv_Ci l D vwCl cI cC tbX td yX4_setHand wsX4_setHand rm_X4_setHand shX w [.inr (.inl 0), .inl a1, .inl a2, .inl a3] z := by
  refine mv_starti (own := RX4) rfl (by decide) rfl rfl (L0 := [some (.inr (.inl 0)), some (.inl a1), some (.inl a2), some (.inl a3), none]) rfl (fun p e s m args below meth c A ad0 hX hr => ?_)
  rw [f_X4_setHand]
  refine ev_iload_n hX dX4_setHand_0 rfl ?_
  refine ev_callSi hX (As := [.inl a1]) (rm := rm_X4_isSide) (c_X4_isSide l D cI cC td a1 w) (cwS 1 hX.ts gX4_setHand_X4_isSide rfl rfl rfl (by decide +kernel) ⟨Nat.le_of_ble_eq_true rfl, Nat.le_of_ble_eq_true rfl⟩) rfl rfl rfl ⟨Nat.le_of_ble_eq_true rfl, Nat.le_of_ble_eq_true rfl⟩ dX4_setHand_1 rfl (fun z1 hz1 => ?_)
  refine ev_if_eq (tgt := 14) hX dX4_setHand_4 (by decide) ?_ ?_
  · refine ev_sipush hX dX4_setHand_14 (v := (-1001)) (by decide +kernel) ?_
    exact ev_ireti hX hr dX4_setHand_17
  · refine ev_iload_n hX dX4_setHand_7 rfl ?_
    refine ev_callSi hX (As := [.inl a2]) (rm := rm_X4_isHandKind) (c_X4_isHandKind l D cI cC td a2 z1.2) (cwS 1 hX.ts gX4_setHand_X4_isHandKind rfl rfl rfl (by decide +kernel) ⟨Nat.le_of_ble_eq_true rfl, Nat.le_of_ble_eq_true rfl⟩) rfl rfl rfl ⟨Nat.le_of_ble_eq_true rfl, Nat.le_of_ble_eq_true rfl⟩ dX4_setHand_8 rfl (fun z2 hz2 => ?_)
    refine ev_if_ne (tgt := 18) hX dX4_setHand_11 (by decide) ?_ ?_
    · refine ev_iload_n hX dX4_setHand_18 rfl ?_
      refine ev_if_lt (tgt := 27) hX dX4_setHand_19 (by decide) ?_ ?_
      · refine ev_sipush hX dX4_setHand_27 (v := (-1002)) (by decide +kernel) ?_
        exact ev_ireti hX hr dX4_setHand_30
      · refine ev_iload_n hX dX4_setHand_22 rfl ?_
        refine ev_iconst hX dX4_setHand_23 (v := 4) (by decide +kernel) ?_
        refine ev_icmp_le (tgt := 31) hX dX4_setHand_24 (by decide) ?_ ?_
        · refine ev_aload_n hX dX4_setHand_31 rfl ?_
          refine ev_getr (k := 0) hX (T := TX4) in_X4_setHand_X4 rfl rfl rfl (show Cond.fieldLink RX4 12 "FiveShogi" "position" "LFiveShogi$Position;" ∈ _ by decide +kernel) rfl dX4_setHand_32 ?_
          refine ev_iload_n hX dX4_setHand_35 rfl ?_
          refine ev_iload_n hX dX4_setHand_36 rfl ?_
          refine ev_callVi hX (k0 := 1) (As := [.inl a1, .inl a2]) (rm := rm_X2_inHand) (c_X2_inHand l D cI cC td a1 a2 z2.2) (cwV 2 hX.ts gX4_setHand_X2_inHand rfl rfl rfl (by decide +kernel) ⟨Nat.le_of_ble_eq_true rfl, Nat.le_of_ble_eq_true rfl⟩) rfl rfl rfl rfl rfl rfl ⟨Nat.le_of_ble_eq_true rfl, Nat.le_of_ble_eq_true rfl⟩ dX4_setHand_37 rfl (fun z3 hz3 => ?_)
          refine ev_istore hX dX4_setHand_40 rfl (L' := [some (.inr (.inl 0)), some (.inl a1), some (.inl a2), some (.inl a3), some (.inl z3.1)]) rfl ?_
          refine ev_iload hX dX4_setHand_42 rfl ?_
          refine ev_iload_n hX dX4_setHand_44 rfl ?_
          refine ev_icmp_ne (tgt := 52) hX dX4_setHand_45 (by decide) ?_ ?_
          · refine ev_aload_n hX dX4_setHand_52 rfl ?_
            refine ev_callVv hX (k0 := 0) (As := []) (rm := rm_X4_recordChange) (c_X4_recordChange l D cI cC td z3.2) (cwV 0 hX.ts gX4_setHand_X4_recordChange rfl rfl rfl (by decide +kernel) ⟨Nat.le_of_ble_eq_true rfl, Nat.le_of_ble_eq_true rfl⟩) rfl rfl rfl rfl rfl rfl ⟨Nat.le_of_ble_eq_true rfl, Nat.le_of_ble_eq_true rfl⟩ dX4_setHand_53 rfl (fun z4 hz4 => ?_)
            refine ev_aload_n hX dX4_setHand_56 rfl ?_
            refine ev_getr (k := 0) hX (T := TX4) in_X4_setHand_X4 rfl rfl rfl (show Cond.fieldLink RX4 12 "FiveShogi" "position" "LFiveShogi$Position;" ∈ _ by decide +kernel) rfl dX4_setHand_57 ?_
            refine ev_iload_n hX dX4_setHand_60 rfl ?_
            refine ev_iload_n hX dX4_setHand_61 rfl ?_
            refine ev_iload_n hX dX4_setHand_62 rfl ?_
            refine ev_callVv hX (k0 := 1) (As := [.inl a1, .inl a2, .inl a3]) (rm := rm_X2_setInHand) (c_X2_setInHand l D cI cC td a1 a2 a3 z4) (cwV 3 hX.ts gX4_setHand_X2_setInHand rfl rfl rfl (by decide +kernel) ⟨Nat.le_of_ble_eq_true rfl, Nat.le_of_ble_eq_true rfl⟩) rfl rfl rfl rfl rfl rfl ⟨Nat.le_of_ble_eq_true rfl, Nat.le_of_ble_eq_true rfl⟩ dX4_setHand_63 rfl (fun z5 hz5 => ?_)
            refine ev_iload hX dX4_setHand_66 rfl ?_
            exact ev_ireti hX hr dX4_setHand_68
          · refine ev_sipush hX dX4_setHand_48 (v := (-1005)) (by decide +kernel) ?_
            exact ev_ireti hX hr dX4_setHand_51
        · refine ev_sipush hX dX4_setHand_27 (v := (-1002)) (by decide +kernel) ?_
          exact ev_ireti hX hr dX4_setHand_30
    · refine ev_sipush hX dX4_setHand_14 (v := (-1001)) (by decide +kernel) ?_
      exact ev_ireti hX hr dX4_setHand_17
def rm_X5_isSide : Room := { frames := 1, cells := 0, slots := 0, locals := 22 }
set_option maxHeartbeats 4000000 in
set_option maxRecDepth 100000 in
theorem c_X5_isSide (l : Launch) (D : va_G) (cI cC : ClassId) (td : Nat → Option Nat) (a0 : Int32) (w : mvW) : ∀ z, f_X5_isSide a0 w = some z → mv_Ci l D vwCl cI cC tbX td yX5_isSide wsX5_isSide rm_X5_isSide shM w [.inl a0] z := by
  refine mv_starti (own := RX5) rfl (by decide) rfl rfl (L0 := [some (.inl a0)]) rfl (fun p e s m args below meth c A ad0 hX hr => ?_)
  rw [f_X5_isSide]
  refine ev_iload_n hX dX5_isSide_0 rfl ?_
  refine ev_iconst hX dX5_isSide_1 (v := 0) (by decide +kernel) ?_
  refine ev_iconst hX dX5_isSide_2 (v := 1) (by decide +kernel) ?_
  refine ev_callSi hX (As := [.inl a0, .inl 0, .inl 1]) (rm := rm_X5_in) (c_X5_in l D cI cC td a0 0 1 w) (cwS 3 hX.ts gX5_isSide_X5_in rfl rfl rfl (by decide +kernel) ⟨Nat.le_of_ble_eq_true rfl, Nat.le_of_ble_eq_true rfl⟩) rfl rfl rfl ⟨Nat.le_of_ble_eq_true rfl, Nat.le_of_ble_eq_true rfl⟩ dX5_isSide_3 rfl (fun z1 hz1 => ?_)
  exact ev_iretz hX hr dX5_isSide_6
def rm_X5_setHand : Room := { frames := 2, cells := 0, slots := 0, locals := 42 }
set_option maxRecDepth 20000 in
theorem in_X5_setHand_X5 : ∀ w ∈ u_ws RX5 TX5 8, w ∈ wsX5_setHand := by decide +kernel
set_option maxHeartbeats 4000000 in
set_option maxRecDepth 100000 in
theorem c_X5_setHand (l : Launch) (D : va_G) (cI cC : ClassId) (td : Nat → Option Nat) (a1 : Int32) (a2 : Int32) (a3 : Int32) (w : mvW) : ∀ z, f_X5_setHand a1 a2 a3 w = some z → mv_Ci l D vwCl cI cC tbX td yX5_setHand wsX5_setHand rm_X5_setHand shM w [.inr (.inl 0), .inl a1, .inl a2, .inl a3] z := by
  refine mv_starti (own := RX5) rfl (by decide) rfl rfl (L0 := [some (.inr (.inl 0)), some (.inl a1), some (.inl a2), some (.inl a3), none]) rfl (fun p e s m args below meth c A ad0 hX hr => ?_)
  rw [f_X5_setHand]
  refine ev_iload_n hX dX5_setHand_0 rfl ?_
  refine ev_callSi hX (As := [.inl a1]) (rm := rm_X5_isSide) (c_X5_isSide l D cI cC td a1 w) (cwS 1 hX.ts gX5_setHand_X5_isSide rfl rfl rfl (by decide +kernel) ⟨Nat.le_of_ble_eq_true rfl, Nat.le_of_ble_eq_true rfl⟩) rfl rfl rfl ⟨Nat.le_of_ble_eq_true rfl, Nat.le_of_ble_eq_true rfl⟩ dX5_setHand_1 rfl (fun z1 hz1 => ?_)
  refine ev_if_eq (tgt := 14) hX dX5_setHand_4 (by decide) ?_ ?_
  · refine ev_sipush hX dX5_setHand_14 (v := (-1001)) (by decide +kernel) ?_
    exact ev_ireti hX hr dX5_setHand_17
  · refine ev_iload_n hX dX5_setHand_7 rfl ?_
    refine ev_callSi hX (As := [.inl a2]) (rm := rm_X5_isInHand) (c_X5_isInHand l D cI cC td a2 z1.2) (cwS 1 hX.ts gX5_setHand_X5_isInHand rfl rfl rfl (by decide +kernel) ⟨Nat.le_of_ble_eq_true rfl, Nat.le_of_ble_eq_true rfl⟩) rfl rfl rfl ⟨Nat.le_of_ble_eq_true rfl, Nat.le_of_ble_eq_true rfl⟩ dX5_setHand_8 rfl (fun z2 hz2 => ?_)
    refine ev_if_ne (tgt := 18) hX dX5_setHand_11 (by decide) ?_ ?_
    · refine ev_iload_n hX dX5_setHand_18 rfl ?_
      refine ev_iconst hX dX5_setHand_19 (v := 0) (by decide +kernel) ?_
      refine ev_iconst hX dX5_setHand_20 (v := 4) (by decide +kernel) ?_
      refine ev_callSi hX (As := [.inl a3, .inl 0, .inl 4]) (rm := rm_X5_in) (c_X5_in l D cI cC td a3 0 4 z2.2) (cwS 3 hX.ts gX5_setHand_X5_in rfl rfl rfl (by decide +kernel) ⟨Nat.le_of_ble_eq_true rfl, Nat.le_of_ble_eq_true rfl⟩) rfl rfl rfl ⟨Nat.le_of_ble_eq_true rfl, Nat.le_of_ble_eq_true rfl⟩ dX5_setHand_21 rfl (fun z3 hz3 => ?_)
      refine ev_if_ne (tgt := 31) hX dX5_setHand_24 (by decide) ?_ ?_
      · refine ev_aload_n hX dX5_setHand_31 rfl ?_
        refine ev_getr (k := 0) hX (T := TX5) in_X5_setHand_X5 rfl rfl rfl (show Cond.fieldLink RX5 7 "FiveShogiModel" "s" "[I" ∈ _ by decide +kernel) rfl dX5_setHand_32 ?_
        refine ev_bipush hX dX5_setHand_35 (v := 25) (by decide +kernel) ?_
        refine ev_iconst hX dX5_setHand_37 (v := 5) (by decide +kernel) ?_
        refine ev_iload_n hX dX5_setHand_38 rfl ?_
        refine ev_imul hX dX5_setHand_39 ?_
        refine ev_iadd hX dX5_setHand_40 ?_
        refine ev_iload_n hX dX5_setHand_41 rfl ?_
        refine ev_iadd hX dX5_setHand_42 ?_
        refine ev_iconst hX dX5_setHand_43 (v := 1) (by decide +kernel) ?_
        refine ev_isub hX dX5_setHand_44 ?_
        refine ev_iald hX rfl dX5_setHand_45 (fun j4 => ?_)
        refine ev_istore hX dX5_setHand_46 rfl (L' := [some (.inr (.inl 0)), some (.inl a1), some (.inl a2), some (.inl a3), some (.inl (z3.2 1 j4))]) rfl ?_
        refine ev_iload hX dX5_setHand_48 rfl ?_
        refine ev_iload_n hX dX5_setHand_50 rfl ?_
        refine ev_icmp_ne (tgt := 58) hX dX5_setHand_51 (by decide) ?_ ?_
        · refine ev_aload_n hX dX5_setHand_58 rfl ?_
          refine ev_callVv hX (k0 := 0) (As := []) (rm := rm_X5_remembers) (c_X5_remembers l D cI cC td z3.2) (cwV 0 hX.ts gX5_setHand_X5_remembers rfl rfl rfl (by decide +kernel) ⟨Nat.le_of_ble_eq_true rfl, Nat.le_of_ble_eq_true rfl⟩) rfl rfl rfl rfl rfl rfl ⟨Nat.le_of_ble_eq_true rfl, Nat.le_of_ble_eq_true rfl⟩ dX5_setHand_59 rfl (fun z5 hz5 => ?_)
          refine ev_aload_n hX dX5_setHand_62 rfl ?_
          refine ev_getr (k := 0) hX (T := TX5) in_X5_setHand_X5 rfl rfl rfl (show Cond.fieldLink RX5 7 "FiveShogiModel" "s" "[I" ∈ _ by decide +kernel) rfl dX5_setHand_63 ?_
          refine ev_bipush hX dX5_setHand_66 (v := 25) (by decide +kernel) ?_
          refine ev_iconst hX dX5_setHand_68 (v := 5) (by decide +kernel) ?_
          refine ev_iload_n hX dX5_setHand_69 rfl ?_
          refine ev_imul hX dX5_setHand_70 ?_
          refine ev_iadd hX dX5_setHand_71 ?_
          refine ev_iload_n hX dX5_setHand_72 rfl ?_
          refine ev_iadd hX dX5_setHand_73 ?_
          refine ev_iconst hX dX5_setHand_74 (v := 1) (by decide +kernel) ?_
          refine ev_isub hX dX5_setHand_75 ?_
          refine ev_iload_n hX dX5_setHand_76 rfl ?_
          refine ev_iast hX rfl dX5_setHand_77 (fun j6 => ?_)
          refine ev_iload hX dX5_setHand_78 rfl ?_
          exact ev_ireti hX hr dX5_setHand_80
        · refine ev_sipush hX dX5_setHand_54 (v := (-1005)) (by decide +kernel) ?_
          exact ev_ireti hX hr dX5_setHand_57
      · refine ev_sipush hX dX5_setHand_27 (v := (-1002)) (by decide +kernel) ?_
        exact ev_ireti hX hr dX5_setHand_30
    · refine ev_sipush hX dX5_setHand_14 (v := (-1001)) (by decide +kernel) ?_
      exact ev_ireti hX hr dX5_setHand_17
def rm_X2_menInHand : Room := { frames := 2, cells := 0, slots := 0, locals := 42 }
set_option maxHeartbeats 4000000 in
set_option maxRecDepth 100000 in
theorem e_X2_menInHand_4 (hX : mv_X p s m args meth c D vwCl cI cC tbX td A cX2_menInHand 4 RX2 wsX2_menInHand) (hr : meth.sig.returnType = (some .int)) : ∀ (n : Nat) (x1 : Int32) (x2 : Int32) (x3 : Int32) (w : mvW), EV p l e (headSpec wsX2_menInHand rm_X2_menInHand).room s m args below meth c D vwCl cI cC td A (fun a => a = ad0) (mv_Qi below args s D vwCl cI cC shX ad0 A) 0 0 shX [some (.inr (.inl 1)), some (.inl x1), some (.inl x2), some (.inl x3)] [] 4 w (f_X2_menInHand_4 n x1 x2 x3 w) := by
  intro n
  induction n with
  | zero => intro x1 x2 x3 w; exact ev_none
  | succ n ih =>
    intro x1 x2 x3 w
    rw [f_X2_menInHand_4]
    refine ev_iload_n hX dX2_menInHand_4 rfl ?_
    refine ev_iconst hX dX2_menInHand_5 (v := 5) (by decide +kernel) ?_
    refine ev_icmp_gt (tgt := 24) hX dX2_menInHand_6 (by decide) ?_ ?_
    · refine ev_iload_n hX dX2_menInHand_24 rfl ?_
      exact ev_ireti hX hr dX2_menInHand_25
    · refine ev_iload_n hX dX2_menInHand_9 rfl ?_
      refine ev_aload_n hX dX2_menInHand_10 rfl ?_
      refine ev_iload_n hX dX2_menInHand_11 rfl ?_
      refine ev_iload_n hX dX2_menInHand_12 rfl ?_
      refine ev_callVi hX (k0 := 1) (As := [.inl x1, .inl x3]) (rm := rm_X2_inHand) (c_X2_inHand l D cI cC td x1 x3 w) (cwV 2 hX.ts gX2_menInHand_X2_inHand rfl rfl rfl (by decide +kernel) ⟨Nat.le_of_ble_eq_true rfl, Nat.le_of_ble_eq_true rfl⟩) rfl rfl rfl rfl rfl rfl ⟨Nat.le_of_ble_eq_true rfl, Nat.le_of_ble_eq_true rfl⟩ dX2_menInHand_13 rfl (fun z1 hz1 => ?_)
      refine ev_iadd hX dX2_menInHand_16 ?_
      refine ev_istore_n hX dX2_menInHand_17 rfl (L' := [some (.inr (.inl 1)), some (.inl x1), some (.inl (x2 + z1.1)), some (.inl x3)]) rfl ?_
      refine ev_iinc hX dX2_menInHand_18 rfl (v := 1) (by decide +kernel) (L' := [some (.inr (.inl 1)), some (.inl x1), some (.inl (x2 + z1.1)), some (.inl (x3 + 1))]) rfl ?_
      refine ev_goto (tgt := 4) hX dX2_menInHand_21 (by decide) ?_
      refine ev_mask [true, true, true, true] (L' := [some (.inr (.inl 1)), some (.inl x1), some (.inl (x2 + z1.1)), some (.inl (x3 + 1))]) rfl rfl ?_
      exact ih x1 (x2 + z1.1) (x3 + 1) z1.2
set_option maxHeartbeats 4000000 in
set_option maxRecDepth 100000 in
theorem c_X2_menInHand (l : Launch) (D : va_G) (cI cC : ClassId) (td : Nat → Option Nat) (a1 : Int32) (w : mvW) : ∀ z, f_X2_menInHand a1 w = some z → mv_Ci l D vwCl cI cC tbX td yX2_menInHand wsX2_menInHand rm_X2_menInHand shX w [.inr (.inl 1), .inl a1] z := by
  refine mv_starti (own := RX2) rfl (by decide) rfl rfl (L0 := [some (.inr (.inl 1)), some (.inl a1), none, none]) rfl (fun p e s m args below meth c A ad0 hX hr => ?_)
  rw [f_X2_menInHand]
  refine ev_iconst hX dX2_menInHand_0 (v := 0) (by decide +kernel) ?_
  refine ev_istore_n hX dX2_menInHand_1 rfl (L' := [some (.inr (.inl 1)), some (.inl a1), some (.inl 0), none]) rfl ?_
  refine ev_iconst hX dX2_menInHand_2 (v := 1) (by decide +kernel) ?_
  refine ev_istore_n hX dX2_menInHand_3 rfl (L' := [some (.inr (.inl 1)), some (.inl a1), some (.inl 0), some (.inl 1)]) rfl ?_
  refine ev_mask [true, true, true, true] (L' := [some (.inr (.inl 1)), some (.inl a1), some (.inl 0), some (.inl 1)]) rfl rfl ?_
  exact e_X2_menInHand_4 hX hr 4096 a1 0 1 w
set_option maxHeartbeats 4000000 in
set_option maxRecDepth 100000 in
theorem e_X2_removeAllMen_46 (hX : mv_X p s m args meth c D vwCl cI cC tbX td A cX2_removeAllMen 2 RX2 wsX2_removeAllMen) (hr : meth.sig.returnType = none) : ∀ (n : Nat) (x1 : Int32) (w : mvW), EV p l e (headSpec wsX2_removeAllMen rm_X2_removeAllMen).room s m args below meth c D vwCl cI cC td A (fun a => a = ad0) (mv_Qv below args s D vwCl cI cC shX ad0 A) 0 0 shX [some (.inr (.inl 1)), some (.inl x1)] [] 46 w (f_X2_removeAllMen_46 n x1 w) := by
  intro n
  induction n with
  | zero => intro x1 w; exact ev_none
  | succ n ih =>
    intro x1 w
    rw [f_X2_removeAllMen_46]
    refine ev_iload_n hX dX2_removeAllMen_46 rfl ?_
    refine ev_iconst hX dX2_removeAllMen_47 (v := 2) (by decide +kernel) ?_
    refine ev_icmp_ge (tgt := 67) hX dX2_removeAllMen_48 (by decide) ?_ ?_
    · exact ev_vret hX hr dX2_removeAllMen_67
    · refine ev_aload_n hX dX2_removeAllMen_51 rfl ?_
      refine ev_getr (k := 0) hX (T := TX2) in_X2_removeAllMen_X2 rfl rfl rfl (show Cond.fieldLink RX2 11 "FiveShogi$Position" "state" "[I" ∈ _ by decide +kernel) rfl dX2_removeAllMen_52 ?_
      refine ev_bipush hX dX2_removeAllMen_55 (v := 37) (by decide +kernel) ?_
      refine ev_iload_n hX dX2_removeAllMen_57 rfl ?_
      refine ev_iadd hX dX2_removeAllMen_58 ?_
      refine ev_iconst hX dX2_removeAllMen_59 (v := (-1)) (by decide +kernel) ?_
      refine ev_iast hX rfl dX2_removeAllMen_60 (fun j3 => ?_)
      refine ev_iinc hX dX2_removeAllMen_61 rfl (v := 1) (by decide +kernel) (L' := [some (.inr (.inl 1)), some (.inl (x1 + 1))]) rfl ?_
      refine ev_goto (tgt := 46) hX dX2_removeAllMen_64 (by decide) ?_
      refine ev_mask [true, true] (L' := [some (.inr (.inl 1)), some (.inl (x1 + 1))]) rfl rfl ?_
      exact ih (x1 + 1) (mv_up w 2 j3 (-1))
set_option maxHeartbeats 4000000 in
set_option maxRecDepth 100000 in
theorem e_X2_removeAllMen_25 (hX : mv_X p s m args meth c D vwCl cI cC tbX td A cX2_removeAllMen 2 RX2 wsX2_removeAllMen) (hr : meth.sig.returnType = none) : ∀ (n : Nat) (x1 : Int32) (w : mvW), EV p l e (headSpec wsX2_removeAllMen rm_X2_removeAllMen).room s m args below meth c D vwCl cI cC td A (fun a => a = ad0) (mv_Qv below args s D vwCl cI cC shX ad0 A) 0 0 shX [some (.inr (.inl 1)), some (.inl x1)] [] 25 w (f_X2_removeAllMen_25 n x1 w) := by
  intro n
  induction n with
  | zero => intro x1 w; exact ev_none
  | succ n ih =>
    intro x1 w
    rw [f_X2_removeAllMen_25]
    refine ev_iload_n hX dX2_removeAllMen_25 rfl ?_
    refine ev_bipush hX dX2_removeAllMen_26 (v := 37) (by decide +kernel) ?_
    refine ev_icmp_ge (tgt := 44) hX dX2_removeAllMen_28 (by decide) ?_ ?_
    · refine ev_iconst hX dX2_removeAllMen_44 (v := 0) (by decide +kernel) ?_
      refine ev_istore_n hX dX2_removeAllMen_45 rfl (L' := [some (.inr (.inl 1)), some (.inl 0)]) rfl ?_
      refine ev_mask [true, true] (L' := [some (.inr (.inl 1)), some (.inl 0)]) rfl rfl ?_
      exact e_X2_removeAllMen_46 hX hr 4096 0 w
    · refine ev_aload_n hX dX2_removeAllMen_31 rfl ?_
      refine ev_getr (k := 0) hX (T := TX2) in_X2_removeAllMen_X2 rfl rfl rfl (show Cond.fieldLink RX2 11 "FiveShogi$Position" "state" "[I" ∈ _ by decide +kernel) rfl dX2_removeAllMen_32 ?_
      refine ev_iload_n hX dX2_removeAllMen_35 rfl ?_
      refine ev_iconst hX dX2_removeAllMen_36 (v := 0) (by decide +kernel) ?_
      refine ev_iast hX rfl dX2_removeAllMen_37 (fun j2 => ?_)
      refine ev_iinc hX dX2_removeAllMen_38 rfl (v := 1) (by decide +kernel) (L' := [some (.inr (.inl 1)), some (.inl (x1 + 1))]) rfl ?_
      refine ev_goto (tgt := 25) hX dX2_removeAllMen_41 (by decide) ?_
      refine ev_mask [true, true] (L' := [some (.inr (.inl 1)), some (.inl (x1 + 1))]) rfl rfl ?_
      exact ih (x1 + 1) (mv_up w 2 j2 0)
set_option maxHeartbeats 4000000 in
set_option maxRecDepth 100000 in
theorem e_X2_removeAllMen_2 (hX : mv_X p s m args meth c D vwCl cI cC tbX td A cX2_removeAllMen 2 RX2 wsX2_removeAllMen) (hr : meth.sig.returnType = none) : ∀ (n : Nat) (x1 : Int32) (w : mvW), EV p l e (headSpec wsX2_removeAllMen rm_X2_removeAllMen).room s m args below meth c D vwCl cI cC td A (fun a => a = ad0) (mv_Qv below args s D vwCl cI cC shX ad0 A) 0 0 shX [some (.inr (.inl 1)), some (.inl x1)] [] 2 w (f_X2_removeAllMen_2 n x1 w) := by
  intro n
  induction n with
  | zero => intro x1 w; exact ev_none
  | succ n ih =>
    intro x1 w
    rw [f_X2_removeAllMen_2]
    refine ev_iload_n hX dX2_removeAllMen_2 rfl ?_
    refine ev_bipush hX dX2_removeAllMen_3 (v := 25) (by decide +kernel) ?_
    refine ev_icmp_ge (tgt := 22) hX dX2_removeAllMen_5 (by decide) ?_ ?_
    · refine ev_bipush hX dX2_removeAllMen_22 (v := 25) (by decide +kernel) ?_
      refine ev_istore_n hX dX2_removeAllMen_24 rfl (L' := [some (.inr (.inl 1)), some (.inl 25)]) rfl ?_
      refine ev_mask [true, true] (L' := [some (.inr (.inl 1)), some (.inl 25)]) rfl rfl ?_
      exact e_X2_removeAllMen_25 hX hr 4096 25 w
    · refine ev_aload_n hX dX2_removeAllMen_8 rfl ?_
      refine ev_getr (k := 0) hX (T := TX2) in_X2_removeAllMen_X2 rfl rfl rfl (show Cond.fieldLink RX2 11 "FiveShogi$Position" "state" "[I" ∈ _ by decide +kernel) rfl dX2_removeAllMen_9 ?_
      refine ev_iload_n hX dX2_removeAllMen_12 rfl ?_
      refine ev_bipush hX dX2_removeAllMen_13 (v := 99) (by decide +kernel) ?_
      refine ev_iast hX rfl dX2_removeAllMen_15 (fun j1 => ?_)
      refine ev_iinc hX dX2_removeAllMen_16 rfl (v := 1) (by decide +kernel) (L' := [some (.inr (.inl 1)), some (.inl (x1 + 1))]) rfl ?_
      refine ev_goto (tgt := 2) hX dX2_removeAllMen_19 (by decide) ?_
      refine ev_mask [true, true] (L' := [some (.inr (.inl 1)), some (.inl (x1 + 1))]) rfl rfl ?_
      exact ih (x1 + 1) (mv_up w 2 j1 99)
set_option maxHeartbeats 4000000 in
set_option maxRecDepth 100000 in
theorem c_X2_removeAllMen (l : Launch) (D : va_G) (cI cC : ClassId) (td : Nat → Option Nat) (w : mvW) : ∀ z, f_X2_removeAllMen w = some z → mv_Cv l D vwCl cI cC tbX td yX2_removeAllMen wsX2_removeAllMen rm_X2_removeAllMen shX w [.inr (.inl 1)] z := by
  refine mv_startv (own := RX2) rfl (by decide) rfl rfl (L0 := [some (.inr (.inl 1)), none]) rfl (fun p e s m args below meth c A ad0 hX hr => ?_)
  rw [f_X2_removeAllMen]
  refine ev_iconst hX dX2_removeAllMen_0 (v := 0) (by decide +kernel) ?_
  refine ev_istore_n hX dX2_removeAllMen_1 rfl (L' := [some (.inr (.inl 1)), some (.inl 0)]) rfl ?_
  refine ev_mask [true, true] (L' := [some (.inr (.inl 1)), some (.inl 0)]) rfl rfl ?_
  exact e_X2_removeAllMen_2 hX hr 4096 0 w
def rm_X4_clearAll : Room := { frames := 3, cells := 0, slots := 0, locals := 82 }
set_option maxRecDepth 20000 in
theorem in_X4_clearAll_X4 : ∀ w ∈ u_ws RX4 TX4 7, w ∈ wsX4_clearAll := by decide +kernel
set_option maxHeartbeats 4000000 in
set_option maxRecDepth 100000 in
theorem c_X4_clearAll (l : Launch) (D : va_G) (cI cC : ClassId) (td : Nat → Option Nat) (w : mvW) : ∀ z, f_X4_clearAll w = some z → mv_Ci l D vwCl cI cC tbX td yX4_clearAll wsX4_clearAll rm_X4_clearAll shX w [.inr (.inl 0)] z := by
  refine mv_starti (own := RX4) rfl (by decide) rfl rfl (L0 := [some (.inr (.inl 0)), none]) rfl (fun p e s m args below meth c A ad0 hX hr => ?_)
  rw [f_X4_clearAll]
  refine ev_aload_n hX dX4_clearAll_0 rfl ?_
  refine ev_getr (k := 0) hX (T := TX4) in_X4_clearAll_X4 rfl rfl rfl (show Cond.fieldLink RX4 12 "FiveShogi" "position" "LFiveShogi$Position;" ∈ _ by decide +kernel) rfl dX4_clearAll_1 ?_
  refine ev_callVi hX (k0 := 1) (As := []) (rm := rm_X2_menOnBoard) (c_X2_menOnBoard l D cI cC td w) (cwV 0 hX.ts gX4_clearAll_X2_menOnBoard rfl rfl rfl (by decide +kernel) ⟨Nat.le_of_ble_eq_true rfl, Nat.le_of_ble_eq_true rfl⟩) rfl rfl rfl rfl rfl rfl ⟨Nat.le_of_ble_eq_true rfl, Nat.le_of_ble_eq_true rfl⟩ dX4_clearAll_4 rfl (fun z1 hz1 => ?_)
  refine ev_aload_n hX dX4_clearAll_7 rfl ?_
  refine ev_getr (k := 0) hX (T := TX4) in_X4_clearAll_X4 rfl rfl rfl (show Cond.fieldLink RX4 12 "FiveShogi" "position" "LFiveShogi$Position;" ∈ _ by decide +kernel) rfl dX4_clearAll_8 ?_
  refine ev_iconst hX dX4_clearAll_11 (v := 0) (by decide +kernel) ?_
  refine ev_callVi hX (k0 := 1) (As := [.inl 0]) (rm := rm_X2_menInHand) (c_X2_menInHand l D cI cC td 0 z1.2) (cwV 1 hX.ts gX4_clearAll_X2_menInHand rfl rfl rfl (by decide +kernel) ⟨Nat.le_of_ble_eq_true rfl, Nat.le_of_ble_eq_true rfl⟩) rfl rfl rfl rfl rfl rfl ⟨Nat.le_of_ble_eq_true rfl, Nat.le_of_ble_eq_true rfl⟩ dX4_clearAll_12 rfl (fun z2 hz2 => ?_)
  refine ev_iadd hX dX4_clearAll_15 ?_
  refine ev_aload_n hX dX4_clearAll_16 rfl ?_
  refine ev_getr (k := 0) hX (T := TX4) in_X4_clearAll_X4 rfl rfl rfl (show Cond.fieldLink RX4 12 "FiveShogi" "position" "LFiveShogi$Position;" ∈ _ by decide +kernel) rfl dX4_clearAll_17 ?_
  refine ev_iconst hX dX4_clearAll_20 (v := 1) (by decide +kernel) ?_
  refine ev_callVi hX (k0 := 1) (As := [.inl 1]) (rm := rm_X2_menInHand) (c_X2_menInHand l D cI cC td 1 z2.2) (cwV 1 hX.ts gX4_clearAll_X2_menInHand rfl rfl rfl (by decide +kernel) ⟨Nat.le_of_ble_eq_true rfl, Nat.le_of_ble_eq_true rfl⟩) rfl rfl rfl rfl rfl rfl ⟨Nat.le_of_ble_eq_true rfl, Nat.le_of_ble_eq_true rfl⟩ dX4_clearAll_21 rfl (fun z3 hz3 => ?_)
  refine ev_iadd hX dX4_clearAll_24 ?_
  refine ev_istore_n hX dX4_clearAll_25 rfl (L' := [some (.inr (.inl 0)), some (.inl ((z1.1 + z2.1) + z3.1))]) rfl ?_
  refine ev_iload_n hX dX4_clearAll_26 rfl ?_
  refine ev_if_ne (tgt := 34) hX dX4_clearAll_27 (by decide) ?_ ?_
  · refine ev_aload_n hX dX4_clearAll_34 rfl ?_
    refine ev_callVv hX (k0 := 0) (As := []) (rm := rm_X4_recordChange) (c_X4_recordChange l D cI cC td z3.2) (cwV 0 hX.ts gX4_clearAll_X4_recordChange rfl rfl rfl (by decide +kernel) ⟨Nat.le_of_ble_eq_true rfl, Nat.le_of_ble_eq_true rfl⟩) rfl rfl rfl rfl rfl rfl ⟨Nat.le_of_ble_eq_true rfl, Nat.le_of_ble_eq_true rfl⟩ dX4_clearAll_35 rfl (fun z4 hz4 => ?_)
    refine ev_aload_n hX dX4_clearAll_38 rfl ?_
    refine ev_getr (k := 0) hX (T := TX4) in_X4_clearAll_X4 rfl rfl rfl (show Cond.fieldLink RX4 12 "FiveShogi" "position" "LFiveShogi$Position;" ∈ _ by decide +kernel) rfl dX4_clearAll_39 ?_
    refine ev_callVv hX (k0 := 1) (As := []) (rm := rm_X2_removeAllMen) (c_X2_removeAllMen l D cI cC td z4) (cwV 0 hX.ts gX4_clearAll_X2_removeAllMen rfl rfl rfl (by decide +kernel) ⟨Nat.le_of_ble_eq_true rfl, Nat.le_of_ble_eq_true rfl⟩) rfl rfl rfl rfl rfl rfl ⟨Nat.le_of_ble_eq_true rfl, Nat.le_of_ble_eq_true rfl⟩ dX4_clearAll_42 rfl (fun z5 hz5 => ?_)
    refine ev_iload_n hX dX4_clearAll_45 rfl ?_
    exact ev_ireti hX hr dX4_clearAll_46
  · refine ev_sipush hX dX4_clearAll_30 (v := (-1005)) (by decide +kernel) ?_
    exact ev_ireti hX hr dX4_clearAll_33
def rm_X5_inHand : Room := { frames := 0, cells := 0, slots := 0, locals := 0 }
set_option maxRecDepth 20000 in
theorem in_X5_inHand_X5 : ∀ w ∈ u_ws RX5 TX5 8, w ∈ wsX5_inHand := by decide +kernel
set_option maxHeartbeats 4000000 in
set_option maxRecDepth 100000 in
theorem e_X5_inHand_4 (hX : mv_X p s m args meth c D vwCl cI cC tbX td A cX5_inHand 4 RX5 wsX5_inHand) (hr : meth.sig.returnType = (some .int)) : ∀ (n : Nat) (x1 : Int32) (x2 : Int32) (x3 : Int32) (w : mvW), EV p l e (headSpec wsX5_inHand rm_X5_inHand).room s m args below meth c D vwCl cI cC td A (fun a => a = ad0) (mv_Qi below args s D vwCl cI cC shM ad0 A) 0 0 shM [some (.inr (.inl 0)), some (.inl x1), some (.inl x2), some (.inl x3)] [] 4 w (f_X5_inHand_4 n x1 x2 x3 w) := by
  intro n
  induction n with
  | zero => intro x1 x2 x3 w; exact ev_none
  | succ n ih =>
    intro x1 x2 x3 w
    rw [f_X5_inHand_4]
    refine ev_iload_n hX dX5_inHand_4 rfl ?_
    refine ev_iconst hX dX5_inHand_5 (v := 5) (by decide +kernel) ?_
    refine ev_icmp_ge (tgt := 31) hX dX5_inHand_6 (by decide) ?_ ?_
    · refine ev_iload_n hX dX5_inHand_31 rfl ?_
      exact ev_ireti hX hr dX5_inHand_32
    · refine ev_iload_n hX dX5_inHand_9 rfl ?_
      refine ev_aload_n hX dX5_inHand_10 rfl ?_
      refine ev_getr (k := 0) hX (T := TX5) in_X5_inHand_X5 rfl rfl rfl (show Cond.fieldLink RX5 7 "FiveShogiModel" "s" "[I" ∈ _ by decide +kernel) rfl dX5_inHand_11 ?_
      refine ev_bipush hX dX5_inHand_14 (v := 25) (by decide +kernel) ?_
      refine ev_iconst hX dX5_inHand_16 (v := 5) (by decide +kernel) ?_
      refine ev_iload_n hX dX5_inHand_17 rfl ?_
      refine ev_imul hX dX5_inHand_18 ?_
      refine ev_iadd hX dX5_inHand_19 ?_
      refine ev_iload_n hX dX5_inHand_20 rfl ?_
      refine ev_iadd hX dX5_inHand_21 ?_
      refine ev_iald hX rfl dX5_inHand_22 (fun j1 => ?_)
      refine ev_iadd hX dX5_inHand_23 ?_
      refine ev_istore_n hX dX5_inHand_24 rfl (L' := [some (.inr (.inl 0)), some (.inl x1), some (.inl (x2 + (w 1 j1))), some (.inl x3)]) rfl ?_
      refine ev_iinc hX dX5_inHand_25 rfl (v := 1) (by decide +kernel) (L' := [some (.inr (.inl 0)), some (.inl x1), some (.inl (x2 + (w 1 j1))), some (.inl (x3 + 1))]) rfl ?_
      refine ev_goto (tgt := 4) hX dX5_inHand_28 (by decide) ?_
      refine ev_mask [true, true, true, true] (L' := [some (.inr (.inl 0)), some (.inl x1), some (.inl (x2 + (w 1 j1))), some (.inl (x3 + 1))]) rfl rfl ?_
      exact ih x1 (x2 + (w 1 j1)) (x3 + 1) w
set_option maxHeartbeats 4000000 in
set_option maxRecDepth 100000 in
theorem c_X5_inHand (l : Launch) (D : va_G) (cI cC : ClassId) (td : Nat → Option Nat) (a1 : Int32) (w : mvW) : ∀ z, f_X5_inHand a1 w = some z → mv_Ci l D vwCl cI cC tbX td yX5_inHand wsX5_inHand rm_X5_inHand shM w [.inr (.inl 0), .inl a1] z := by
  refine mv_starti (own := RX5) rfl (by decide) rfl rfl (L0 := [some (.inr (.inl 0)), some (.inl a1), none, none]) rfl (fun p e s m args below meth c A ad0 hX hr => ?_)
  rw [f_X5_inHand]
  refine ev_iconst hX dX5_inHand_0 (v := 0) (by decide +kernel) ?_
  refine ev_istore_n hX dX5_inHand_1 rfl (L' := [some (.inr (.inl 0)), some (.inl a1), some (.inl 0), none]) rfl ?_
  refine ev_iconst hX dX5_inHand_2 (v := 0) (by decide +kernel) ?_
  refine ev_istore_n hX dX5_inHand_3 rfl (L' := [some (.inr (.inl 0)), some (.inl a1), some (.inl 0), some (.inl 0)]) rfl ?_
  refine ev_mask [true, true, true, true] (L' := [some (.inr (.inl 0)), some (.inl a1), some (.inl 0), some (.inl 0)]) rfl rfl ?_
  exact e_X5_inHand_4 hX hr 4096 a1 0 0 w
def rm_X5_clearAll : Room := { frames := 1, cells := 0, slots := 0, locals := 23 }
set_option maxRecDepth 20000 in
theorem in_X5_clearAll_X5 : ∀ w ∈ u_ws RX5 TX5 8, w ∈ wsX5_clearAll := by decide +kernel
set_option maxHeartbeats 4000000 in
set_option maxRecDepth 100000 in
theorem e_X5_clearAll_31 (hX : mv_X p s m args meth c D vwCl cI cC tbX td A cX5_clearAll 3 RX5 wsX5_clearAll) (hr : meth.sig.returnType = (some .int)) : ∀ (n : Nat) (x1 : Int32) (x2 : Int32) (w : mvW), EV p l e (headSpec wsX5_clearAll rm_X5_clearAll).room s m args below meth c D vwCl cI cC td A (fun a => a = ad0) (mv_Qi below args s D vwCl cI cC shM ad0 A) 0 0 shM [some (.inr (.inl 0)), some (.inl x1), some (.inl x2)] [] 31 w (f_X5_clearAll_31 n x1 x2 w) := by
  intro n
  induction n with
  | zero => intro x1 x2 w; exact ev_none
  | succ n ih =>
    intro x1 x2 w
    rw [f_X5_clearAll_31]
    refine ev_iload_n hX dX5_clearAll_31 rfl ?_
    refine ev_bipush hX dX5_clearAll_32 (v := 35) (by decide +kernel) ?_
    refine ev_icmp_ge (tgt := 50) hX dX5_clearAll_34 (by decide) ?_ ?_
    · refine ev_iload_n hX dX5_clearAll_50 rfl ?_
      exact ev_ireti hX hr dX5_clearAll_51
    · refine ev_aload_n hX dX5_clearAll_37 rfl ?_
      refine ev_getr (k := 0) hX (T := TX5) in_X5_clearAll_X5 rfl rfl rfl (show Cond.fieldLink RX5 7 "FiveShogiModel" "s" "[I" ∈ _ by decide +kernel) rfl dX5_clearAll_38 ?_
      refine ev_iload_n hX dX5_clearAll_41 rfl ?_
      refine ev_iconst hX dX5_clearAll_42 (v := 0) (by decide +kernel) ?_
      refine ev_iast hX rfl dX5_clearAll_43 (fun j5 => ?_)
      refine ev_iinc hX dX5_clearAll_44 rfl (v := 1) (by decide +kernel) (L' := [some (.inr (.inl 0)), some (.inl x1), some (.inl (x2 + 1))]) rfl ?_
      refine ev_goto (tgt := 31) hX dX5_clearAll_47 (by decide) ?_
      refine ev_mask [true, true, true] (L' := [some (.inr (.inl 0)), some (.inl x1), some (.inl (x2 + 1))]) rfl rfl ?_
      exact ih x1 (x2 + 1) (mv_up w 1 j5 0)
set_option maxHeartbeats 4000000 in
set_option maxRecDepth 100000 in
theorem c_X5_clearAll (l : Launch) (D : va_G) (cI cC : ClassId) (td : Nat → Option Nat) (w : mvW) : ∀ z, f_X5_clearAll w = some z → mv_Ci l D vwCl cI cC tbX td yX5_clearAll wsX5_clearAll rm_X5_clearAll shM w [.inr (.inl 0)] z := by
  refine mv_starti (own := RX5) rfl (by decide) rfl rfl (L0 := [some (.inr (.inl 0)), none, none]) rfl (fun p e s m args below meth c A ad0 hX hr => ?_)
  rw [f_X5_clearAll]
  refine ev_aload_n hX dX5_clearAll_0 rfl ?_
  refine ev_callVi hX (k0 := 0) (As := []) (rm := rm_X5_onBoard) (c_X5_onBoard l D cI cC td w) (cwV 0 hX.ts gX5_clearAll_X5_onBoard rfl rfl rfl (by decide +kernel) ⟨Nat.le_of_ble_eq_true rfl, Nat.le_of_ble_eq_true rfl⟩) rfl rfl rfl rfl rfl rfl ⟨Nat.le_of_ble_eq_true rfl, Nat.le_of_ble_eq_true rfl⟩ dX5_clearAll_1 rfl (fun z1 hz1 => ?_)
  refine ev_aload_n hX dX5_clearAll_4 rfl ?_
  refine ev_iconst hX dX5_clearAll_5 (v := 0) (by decide +kernel) ?_
  refine ev_callVi hX (k0 := 0) (As := [.inl 0]) (rm := rm_X5_inHand) (c_X5_inHand l D cI cC td 0 z1.2) (cwV 1 hX.ts gX5_clearAll_X5_inHand rfl rfl rfl (by decide +kernel) ⟨Nat.le_of_ble_eq_true rfl, Nat.le_of_ble_eq_true rfl⟩) rfl rfl rfl rfl rfl rfl ⟨Nat.le_of_ble_eq_true rfl, Nat.le_of_ble_eq_true rfl⟩ dX5_clearAll_6 rfl (fun z2 hz2 => ?_)
  refine ev_iadd hX dX5_clearAll_9 ?_
  refine ev_aload_n hX dX5_clearAll_10 rfl ?_
  refine ev_iconst hX dX5_clearAll_11 (v := 1) (by decide +kernel) ?_
  refine ev_callVi hX (k0 := 0) (As := [.inl 1]) (rm := rm_X5_inHand) (c_X5_inHand l D cI cC td 1 z2.2) (cwV 1 hX.ts gX5_clearAll_X5_inHand rfl rfl rfl (by decide +kernel) ⟨Nat.le_of_ble_eq_true rfl, Nat.le_of_ble_eq_true rfl⟩) rfl rfl rfl rfl rfl rfl ⟨Nat.le_of_ble_eq_true rfl, Nat.le_of_ble_eq_true rfl⟩ dX5_clearAll_12 rfl (fun z3 hz3 => ?_)
  refine ev_iadd hX dX5_clearAll_15 ?_
  refine ev_istore_n hX dX5_clearAll_16 rfl (L' := [some (.inr (.inl 0)), some (.inl ((z1.1 + z2.1) + z3.1)), none]) rfl ?_
  refine ev_iload_n hX dX5_clearAll_17 rfl ?_
  refine ev_if_ne (tgt := 25) hX dX5_clearAll_18 (by decide) ?_ ?_
  · refine ev_aload_n hX dX5_clearAll_25 rfl ?_
    refine ev_callVv hX (k0 := 0) (As := []) (rm := rm_X5_remembers) (c_X5_remembers l D cI cC td z3.2) (cwV 0 hX.ts gX5_clearAll_X5_remembers rfl rfl rfl (by decide +kernel) ⟨Nat.le_of_ble_eq_true rfl, Nat.le_of_ble_eq_true rfl⟩) rfl rfl rfl rfl rfl rfl ⟨Nat.le_of_ble_eq_true rfl, Nat.le_of_ble_eq_true rfl⟩ dX5_clearAll_26 rfl (fun z4 hz4 => ?_)
    refine ev_iconst hX dX5_clearAll_29 (v := 0) (by decide +kernel) ?_
    refine ev_istore_n hX dX5_clearAll_30 rfl (L' := [some (.inr (.inl 0)), some (.inl ((z1.1 + z2.1) + z3.1)), some (.inl 0)]) rfl ?_
    refine ev_mask [true, true, true] (L' := [some (.inr (.inl 0)), some (.inl ((z1.1 + z2.1) + z3.1)), some (.inl 0)]) rfl rfl ?_
    exact e_X5_clearAll_31 hX hr 4096 ((z1.1 + z2.1) + z3.1) 0 z4
  · refine ev_sipush hX dX5_clearAll_21 (v := (-1005)) (by decide +kernel) ?_
    exact ev_ireti hX hr dX5_clearAll_24
def rm_J6_bitCount_0f7a4 : Room := { frames := 0, cells := 0, slots := 0, locals := 0 }
set_option maxHeartbeats 4000000 in
set_option maxRecDepth 100000 in
theorem c_J6_bitCount_0f7a4 (l : Launch) (D : va_G) (cI cC : ClassId) (td : Nat → Option Nat) (a0 : Int32) (w : mvW) : ∀ z, f_J6_bitCount_0f7a4 a0 w = some z → mv_Ci l D vwCl cI cC tbX td yJ6_bitCount_0f7a4 wsJ6_bitCount_0f7a4 rm_J6_bitCount_0f7a4 shX w [.inl a0] z := by
  refine mv_starti (own := RJ6) rfl (by decide) rfl rfl (L0 := [some (.inl a0)]) rfl (fun p e s m args below meth c A ad0 hX hr => ?_)
  rw [f_J6_bitCount_0f7a4]
  refine ev_iload_n hX dJ6_bitCount_0f7a4_0 rfl ?_
  refine ev_iload_n hX dJ6_bitCount_0f7a4_1 rfl ?_
  refine ev_iconst hX dJ6_bitCount_0f7a4_2 (v := 1) (by decide +kernel) ?_
  refine ev_iushr hX dJ6_bitCount_0f7a4_3 ?_
  refine ev_ldcw hX (v := 1431655765) dJ6_bitCount_0f7a4_4 (by decide +kernel) ?_
  refine ev_iand hX dJ6_bitCount_0f7a4_7 ?_
  refine ev_isub hX dJ6_bitCount_0f7a4_8 ?_
  refine ev_istore_n hX dJ6_bitCount_0f7a4_9 rfl (L' := [some (.inl (a0 - (((Int32.toUInt32 a0 >>> (Int32.toUInt32 1 &&& Int32.toUInt32 31)).toInt32) &&& 1431655765)))]) rfl ?_
  refine ev_iload_n hX dJ6_bitCount_0f7a4_10 rfl ?_
  refine ev_ldcw hX (v := 858993459) dJ6_bitCount_0f7a4_11 (by decide +kernel) ?_
  refine ev_iand hX dJ6_bitCount_0f7a4_14 ?_
  refine ev_iload_n hX dJ6_bitCount_0f7a4_15 rfl ?_
  refine ev_iconst hX dJ6_bitCount_0f7a4_16 (v := 2) (by decide +kernel) ?_
  refine ev_iushr hX dJ6_bitCount_0f7a4_17 ?_
  refine ev_ldcw hX (v := 858993459) dJ6_bitCount_0f7a4_18 (by decide +kernel) ?_
  refine ev_iand hX dJ6_bitCount_0f7a4_21 ?_
  refine ev_iadd hX dJ6_bitCount_0f7a4_22 ?_
  refine ev_istore_n hX dJ6_bitCount_0f7a4_23 rfl (L' := [some (.inl (((a0 - (((Int32.toUInt32 a0 >>> (Int32.toUInt32 1 &&& Int32.toUInt32 31)).toInt32) &&& 1431655765)) &&& 858993459) + (((Int32.toUInt32 (a0 - (((Int32.toUInt32 a0 >>> (Int32.toUInt32 1 &&& Int32.toUInt32 31)).toInt32) &&& 1431655765)) >>> (Int32.toUInt32 2 &&& Int32.toUInt32 31)).toInt32) &&& 858993459)))]) rfl ?_
  refine ev_iload_n hX dJ6_bitCount_0f7a4_24 rfl ?_
  refine ev_iload_n hX dJ6_bitCount_0f7a4_25 rfl ?_
  refine ev_iconst hX dJ6_bitCount_0f7a4_26 (v := 4) (by decide +kernel) ?_
  refine ev_iushr hX dJ6_bitCount_0f7a4_27 ?_
  refine ev_iadd hX dJ6_bitCount_0f7a4_28 ?_
  refine ev_ldcw hX (v := 252645135) dJ6_bitCount_0f7a4_29 (by decide +kernel) ?_
  refine ev_iand hX dJ6_bitCount_0f7a4_32 ?_
  refine ev_istore_n hX dJ6_bitCount_0f7a4_33 rfl (L' := [some (.inl (((((a0 - (((Int32.toUInt32 a0 >>> (Int32.toUInt32 1 &&& Int32.toUInt32 31)).toInt32) &&& 1431655765)) &&& 858993459) + (((Int32.toUInt32 (a0 - (((Int32.toUInt32 a0 >>> (Int32.toUInt32 1 &&& Int32.toUInt32 31)).toInt32) &&& 1431655765)) >>> (Int32.toUInt32 2 &&& Int32.toUInt32 31)).toInt32) &&& 858993459)) + ((Int32.toUInt32 (((a0 - (((Int32.toUInt32 a0 >>> (Int32.toUInt32 1 &&& Int32.toUInt32 31)).toInt32) &&& 1431655765)) &&& 858993459) + (((Int32.toUInt32 (a0 - (((Int32.toUInt32 a0 >>> (Int32.toUInt32 1 &&& Int32.toUInt32 31)).toInt32) &&& 1431655765)) >>> (Int32.toUInt32 2 &&& Int32.toUInt32 31)).toInt32) &&& 858993459)) >>> (Int32.toUInt32 4 &&& Int32.toUInt32 31)).toInt32)) &&& 252645135))]) rfl ?_
  refine ev_iload_n hX dJ6_bitCount_0f7a4_34 rfl ?_
  refine ev_iload_n hX dJ6_bitCount_0f7a4_35 rfl ?_
  refine ev_bipush hX dJ6_bitCount_0f7a4_36 (v := 8) (by decide +kernel) ?_
  refine ev_iushr hX dJ6_bitCount_0f7a4_38 ?_
  refine ev_iadd hX dJ6_bitCount_0f7a4_39 ?_
  refine ev_istore_n hX dJ6_bitCount_0f7a4_40 rfl (L' := [some (.inl ((((((a0 - (((Int32.toUInt32 a0 >>> (Int32.toUInt32 1 &&& Int32.toUInt32 31)).toInt32) &&& 1431655765)) &&& 858993459) + (((Int32.toUInt32 (a0 - (((Int32.toUInt32 a0 >>> (Int32.toUInt32 1 &&& Int32.toUInt32 31)).toInt32) &&& 1431655765)) >>> (Int32.toUInt32 2 &&& Int32.toUInt32 31)).toInt32) &&& 858993459)) + ((Int32.toUInt32 (((a0 - (((Int32.toUInt32 a0 >>> (Int32.toUInt32 1 &&& Int32.toUInt32 31)).toInt32) &&& 1431655765)) &&& 858993459) + (((Int32.toUInt32 (a0 - (((Int32.toUInt32 a0 >>> (Int32.toUInt32 1 &&& Int32.toUInt32 31)).toInt32) &&& 1431655765)) >>> (Int32.toUInt32 2 &&& Int32.toUInt32 31)).toInt32) &&& 858993459)) >>> (Int32.toUInt32 4 &&& Int32.toUInt32 31)).toInt32)) &&& 252645135) + ((Int32.toUInt32 (((((a0 - (((Int32.toUInt32 a0 >>> (Int32.toUInt32 1 &&& Int32.toUInt32 31)).toInt32) &&& 1431655765)) &&& 858993459) + (((Int32.toUInt32 (a0 - (((Int32.toUInt32 a0 >>> (Int32.toUInt32 1 &&& Int32.toUInt32 31)).toInt32) &&& 1431655765)) >>> (Int32.toUInt32 2 &&& Int32.toUInt32 31)).toInt32) &&& 858993459)) + ((Int32.toUInt32 (((a0 - (((Int32.toUInt32 a0 >>> (Int32.toUInt32 1 &&& Int32.toUInt32 31)).toInt32) &&& 1431655765)) &&& 858993459) + (((Int32.toUInt32 (a0 - (((Int32.toUInt32 a0 >>> (Int32.toUInt32 1 &&& Int32.toUInt32 31)).toInt32) &&& 1431655765)) >>> (Int32.toUInt32 2 &&& Int32.toUInt32 31)).toInt32) &&& 858993459)) >>> (Int32.toUInt32 4 &&& Int32.toUInt32 31)).toInt32)) &&& 252645135) >>> (Int32.toUInt32 8 &&& Int32.toUInt32 31)).toInt32)))]) rfl ?_
  refine ev_iload_n hX dJ6_bitCount_0f7a4_41 rfl ?_
  refine ev_iload_n hX dJ6_bitCount_0f7a4_42 rfl ?_
  refine ev_bipush hX dJ6_bitCount_0f7a4_43 (v := 16) (by decide +kernel) ?_
  refine ev_iushr hX dJ6_bitCount_0f7a4_45 ?_
  refine ev_iadd hX dJ6_bitCount_0f7a4_46 ?_
  refine ev_istore_n hX dJ6_bitCount_0f7a4_47 rfl (L' := [some (.inl (((((((a0 - (((Int32.toUInt32 a0 >>> (Int32.toUInt32 1 &&& Int32.toUInt32 31)).toInt32) &&& 1431655765)) &&& 858993459) + (((Int32.toUInt32 (a0 - (((Int32.toUInt32 a0 >>> (Int32.toUInt32 1 &&& Int32.toUInt32 31)).toInt32) &&& 1431655765)) >>> (Int32.toUInt32 2 &&& Int32.toUInt32 31)).toInt32) &&& 858993459)) + ((Int32.toUInt32 (((a0 - (((Int32.toUInt32 a0 >>> (Int32.toUInt32 1 &&& Int32.toUInt32 31)).toInt32) &&& 1431655765)) &&& 858993459) + (((Int32.toUInt32 (a0 - (((Int32.toUInt32 a0 >>> (Int32.toUInt32 1 &&& Int32.toUInt32 31)).toInt32) &&& 1431655765)) >>> (Int32.toUInt32 2 &&& Int32.toUInt32 31)).toInt32) &&& 858993459)) >>> (Int32.toUInt32 4 &&& Int32.toUInt32 31)).toInt32)) &&& 252645135) + ((Int32.toUInt32 (((((a0 - (((Int32.toUInt32 a0 >>> (Int32.toUInt32 1 &&& Int32.toUInt32 31)).toInt32) &&& 1431655765)) &&& 858993459) + (((Int32.toUInt32 (a0 - (((Int32.toUInt32 a0 >>> (Int32.toUInt32 1 &&& Int32.toUInt32 31)).toInt32) &&& 1431655765)) >>> (Int32.toUInt32 2 &&& Int32.toUInt32 31)).toInt32) &&& 858993459)) + ((Int32.toUInt32 (((a0 - (((Int32.toUInt32 a0 >>> (Int32.toUInt32 1 &&& Int32.toUInt32 31)).toInt32) &&& 1431655765)) &&& 858993459) + (((Int32.toUInt32 (a0 - (((Int32.toUInt32 a0 >>> (Int32.toUInt32 1 &&& Int32.toUInt32 31)).toInt32) &&& 1431655765)) >>> (Int32.toUInt32 2 &&& Int32.toUInt32 31)).toInt32) &&& 858993459)) >>> (Int32.toUInt32 4 &&& Int32.toUInt32 31)).toInt32)) &&& 252645135) >>> (Int32.toUInt32 8 &&& Int32.toUInt32 31)).toInt32)) + ((Int32.toUInt32 ((((((a0 - (((Int32.toUInt32 a0 >>> (Int32.toUInt32 1 &&& Int32.toUInt32 31)).toInt32) &&& 1431655765)) &&& 858993459) + (((Int32.toUInt32 (a0 - (((Int32.toUInt32 a0 >>> (Int32.toUInt32 1 &&& Int32.toUInt32 31)).toInt32) &&& 1431655765)) >>> (Int32.toUInt32 2 &&& Int32.toUInt32 31)).toInt32) &&& 858993459)) + ((Int32.toUInt32 (((a0 - (((Int32.toUInt32 a0 >>> (Int32.toUInt32 1 &&& Int32.toUInt32 31)).toInt32) &&& 1431655765)) &&& 858993459) + (((Int32.toUInt32 (a0 - (((Int32.toUInt32 a0 >>> (Int32.toUInt32 1 &&& Int32.toUInt32 31)).toInt32) &&& 1431655765)) >>> (Int32.toUInt32 2 &&& Int32.toUInt32 31)).toInt32) &&& 858993459)) >>> (Int32.toUInt32 4 &&& Int32.toUInt32 31)).toInt32)) &&& 252645135) + ((Int32.toUInt32 (((((a0 - (((Int32.toUInt32 a0 >>> (Int32.toUInt32 1 &&& Int32.toUInt32 31)).toInt32) &&& 1431655765)) &&& 858993459) + (((Int32.toUInt32 (a0 - (((Int32.toUInt32 a0 >>> (Int32.toUInt32 1 &&& Int32.toUInt32 31)).toInt32) &&& 1431655765)) >>> (Int32.toUInt32 2 &&& Int32.toUInt32 31)).toInt32) &&& 858993459)) + ((Int32.toUInt32 (((a0 - (((Int32.toUInt32 a0 >>> (Int32.toUInt32 1 &&& Int32.toUInt32 31)).toInt32) &&& 1431655765)) &&& 858993459) + (((Int32.toUInt32 (a0 - (((Int32.toUInt32 a0 >>> (Int32.toUInt32 1 &&& Int32.toUInt32 31)).toInt32) &&& 1431655765)) >>> (Int32.toUInt32 2 &&& Int32.toUInt32 31)).toInt32) &&& 858993459)) >>> (Int32.toUInt32 4 &&& Int32.toUInt32 31)).toInt32)) &&& 252645135) >>> (Int32.toUInt32 8 &&& Int32.toUInt32 31)).toInt32)) >>> (Int32.toUInt32 16 &&& Int32.toUInt32 31)).toInt32)))]) rfl ?_
  refine ev_iload_n hX dJ6_bitCount_0f7a4_48 rfl ?_
  refine ev_bipush hX dJ6_bitCount_0f7a4_49 (v := 63) (by decide +kernel) ?_
  refine ev_iand hX dJ6_bitCount_0f7a4_51 ?_
  exact ev_ireti hX hr dJ6_bitCount_0f7a4_52
def rm_X3_findPlays : Room := { frames := 5, cells := 0, slots := 0, locals := 124 }
set_option maxRecDepth 20000 in
theorem in_X3_findPlays_X3 : ∀ w ∈ u_ws RX3 TX3 6, w ∈ wsX3_findPlays := by decide +kernel
set_option maxHeartbeats 4000000 in
set_option maxRecDepth 100000 in
theorem e_X3_findPlays_160 (hX : mv_X p s m args meth c D vwCl cI cC tbX td A cX3_findPlays 6 RX3 wsX3_findPlays) (hr : meth.sig.returnType = (some .int)) (k122 : Int32 → Int32 → Int32 → mvW → Option (Int32 × mvW)) (hk122 : ∀ (x2 : Int32) (x3 : Int32) (x4 : Int32) (w : mvW), EV p l e (headSpec wsX3_findPlays rm_X3_findPlays).room s m args below meth c D vwCl cI cC td A (fun a => a = ad0) (mv_Qi below args s D vwCl cI cC shX ad0 A) 0 0 shX [some (.inr (.inl 4)), none, some (.inl x2), some (.inl x3), some (.inl x4), none] [] 122 w (k122 x2 x3 x4 w)) (x2 : Int32) (x3 : Int32) (x4 : Int32) (s0 : Int32) (s1 : Int32) (w : mvW) : EV p l e (headSpec wsX3_findPlays rm_X3_findPlays).room s m args below meth c D vwCl cI cC td A (fun a => a = ad0) (mv_Qi below args s D vwCl cI cC shX ad0 A) 0 0 shX [some (.inr (.inl 4)), none, some (.inl x2), some (.inl x3), some (.inl x4), none] [.inl s0, .inl s1, .inr (.inl 7)] 160 w (f_X3_findPlays_160 k122 x2 x3 x4 s0 s1 w) := by
  rw [f_X3_findPlays_160]
  refine ev_iast hX rfl dX3_findPlays_160 (fun j8 => ?_)
  refine ev_iload_n hX dX3_findPlays_161 rfl ?_
  refine ev_aload_n hX dX3_findPlays_162 rfl ?_
  refine ev_getr (k := 3) hX (T := TX3) in_X3_findPlays_X3 rfl rfl rfl (show Cond.fieldLink RX3 18 "FiveShogi$Rules" "kindDrops" "[I" ∈ _ by decide +kernel) rfl dX3_findPlays_163 ?_
  refine ev_iload hX dX3_findPlays_166 rfl ?_
  refine ev_iald hX rfl dX3_findPlays_168 (fun j9 => ?_)
  refine ev_callSi hX (As := [.inl ((mv_up w 7 j8 s0) 7 j9)]) (rm := rm_J6_bitCount_0f7a4) (c_J6_bitCount_0f7a4 l D cI cC td ((mv_up w 7 j8 s0) 7 j9) (mv_up w 7 j8 s0)) (va_cwS 1 hX.ts gX3_findPlays_J6_bitCount_0f7a4 rfl rfl rfl (by decide +kernel) ⟨Nat.le_of_ble_eq_true rfl, Nat.le_of_ble_eq_true rfl⟩) rfl rfl rfl ⟨Nat.le_of_ble_eq_true rfl, Nat.le_of_ble_eq_true rfl⟩ dX3_findPlays_169 rfl (fun z10 hz10 => ?_)
  refine ev_iadd hX dX3_findPlays_172 ?_
  refine ev_istore_n hX dX3_findPlays_173 rfl (L' := [some (.inr (.inl 4)), none, some (.inl (x2 + z10.1)), some (.inl x3), some (.inl x4), none]) rfl ?_
  refine ev_iinc hX dX3_findPlays_174 rfl (v := 1) (by decide +kernel) (L' := [some (.inr (.inl 4)), none, some (.inl (x2 + z10.1)), some (.inl x3), some (.inl (x4 + 1)), none]) rfl ?_
  refine ev_goto (tgt := 122) hX dX3_findPlays_177 (by decide) ?_
  refine ev_mask [true, false, true, true, true, false] (L' := [some (.inr (.inl 4)), none, some (.inl (x2 + z10.1)), some (.inl x3), some (.inl (x4 + 1)), none]) rfl rfl ?_
  exact hk122 (x2 + z10.1) x3 (x4 + 1) z10.2
set_option maxHeartbeats 4000000 in
set_option maxRecDepth 100000 in
theorem e_X3_findPlays_122 (hX : mv_X p s m args meth c D vwCl cI cC tbX td A cX3_findPlays 6 RX3 wsX3_findPlays) (hr : meth.sig.returnType = (some .int)) : ∀ (n : Nat) (x2 : Int32) (x3 : Int32) (x4 : Int32) (w : mvW), EV p l e (headSpec wsX3_findPlays rm_X3_findPlays).room s m args below meth c D vwCl cI cC td A (fun a => a = ad0) (mv_Qi below args s D vwCl cI cC shX ad0 A) 0 0 shX [some (.inr (.inl 4)), none, some (.inl x2), some (.inl x3), some (.inl x4), none] [] 122 w (f_X3_findPlays_122 n x2 x3 x4 w) := by
  intro n
  induction n with
  | zero => intro x2 x3 x4 w; exact ev_none
  | succ n ih =>
    intro x2 x3 x4 w
    rw [f_X3_findPlays_122]
    refine ev_iload hX dX3_findPlays_122 rfl ?_
    refine ev_iconst hX dX3_findPlays_124 (v := 5) (by decide +kernel) ?_
    refine ev_icmp_gt (tgt := 180) hX dX3_findPlays_125 (by decide) ?_ ?_
    · refine ev_iload_n hX dX3_findPlays_180 rfl ?_
      exact ev_ireti hX hr dX3_findPlays_181
    · refine ev_aload_n hX dX3_findPlays_128 rfl ?_
      refine ev_iload hX dX3_findPlays_129 rfl ?_
      refine ev_iload_n hX dX3_findPlays_131 rfl ?_
      refine ev_callVi hX (k0 := 4) (As := [.inl x4, .inl x3]) (rm := rm_X3_openToDrops) (c_X3_openToDrops l D cI cC td x4 x3 w) (cwV 2 hX.ts gX3_findPlays_X3_openToDrops rfl rfl rfl (by decide +kernel) ⟨Nat.le_of_ble_eq_true rfl, Nat.le_of_ble_eq_true rfl⟩) rfl rfl rfl rfl rfl rfl ⟨Nat.le_of_ble_eq_true rfl, Nat.le_of_ble_eq_true rfl⟩ dX3_findPlays_132 rfl (fun z5 hz5 => ?_)
      refine ev_istore hX dX3_findPlays_135 rfl (L' := [some (.inr (.inl 4)), none, some (.inl x2), some (.inl x3), some (.inl x4), some (.inl z5.1)]) rfl ?_
      refine ev_aload_n hX dX3_findPlays_137 rfl ?_
      refine ev_getr (k := 3) hX (T := TX3) in_X3_findPlays_X3 rfl rfl rfl (show Cond.fieldLink RX3 18 "FiveShogi$Rules" "kindDrops" "[I" ∈ _ by decide +kernel) rfl dX3_findPlays_138 ?_
      refine ev_iload hX dX3_findPlays_141 rfl ?_
      refine ev_iload hX dX3_findPlays_143 rfl ?_
      refine ev_iconst hX dX3_findPlays_145 (v := 5) (by decide +kernel) ?_
      refine ev_icmp_ne (tgt := 158) hX dX3_findPlays_146 (by decide) ?_ ?_
      · refine ev_iload hX dX3_findPlays_158 rfl ?_
        refine ev_mask [true, false, true, true, true, false] (L' := [some (.inr (.inl 4)), none, some (.inl x2), some (.inl x3), some (.inl x4), none]) rfl rfl ?_
        exact e_X3_findPlays_160 hX hr (fun x2' x3' x4' w' => f_X3_findPlays_122 n x2' x3' x4' w') (fun x2' x3' x4' w' => ih x2' x3' x4' w') x2 x3 x4 z5.1 x4 z5.2
      · refine ev_aload_n hX dX3_findPlays_149 rfl ?_
        refine ev_iload hX dX3_findPlays_150 rfl ?_
        refine ev_callVi hX (k0 := 4) (As := [.inl z5.1]) (rm := rm_X3_withoutMates) (c_X3_withoutMates l D cI cC td z5.1 z5.2) (cwV 1 hX.ts gX3_findPlays_X3_withoutMates rfl rfl rfl (by decide +kernel) ⟨Nat.le_of_ble_eq_true rfl, Nat.le_of_ble_eq_true rfl⟩) rfl rfl rfl rfl rfl rfl ⟨Nat.le_of_ble_eq_true rfl, Nat.le_of_ble_eq_true rfl⟩ dX3_findPlays_152 rfl (fun z6 hz6 => ?_)
        refine ev_goto (tgt := 160) hX dX3_findPlays_155 (by decide) ?_
        refine ev_mask [true, false, true, true, true, false] (L' := [some (.inr (.inl 4)), none, some (.inl x2), some (.inl x3), some (.inl x4), none]) rfl rfl ?_
        exact e_X3_findPlays_160 hX hr (fun x2' x3' x4' w' => f_X3_findPlays_122 n x2' x3' x4' w') (fun x2' x3' x4' w' => ih x2' x3' x4' w') x2 x3 x4 z6.1 x4 z6.2
set_option maxHeartbeats 4000000 in
set_option maxRecDepth 100000 in
theorem e_X3_findPlays_54 (hX : mv_X p s m args meth c D vwCl cI cC tbX td A cX3_findPlays 6 RX3 wsX3_findPlays) (hr : meth.sig.returnType = (some .int)) (k12 : Int32 → Int32 → Int32 → mvW → Option (Int32 × mvW)) (hk12 : ∀ (x1 : Int32) (x2 : Int32) (x3 : Int32) (w : mvW), EV p l e (headSpec wsX3_findPlays rm_X3_findPlays).room s m args below meth c D vwCl cI cC td A (fun a => a = ad0) (mv_Qi below args s D vwCl cI cC shX ad0 A) 0 0 shX [some (.inr (.inl 4)), some (.inl x1), some (.inl x2), some (.inl x3), none, none] [] 12 w (k12 x1 x2 x3 w)) (x1 : Int32) (x2 : Int32) (x3 : Int32) (s0 : Int32) (w : mvW) : EV p l e (headSpec wsX3_findPlays rm_X3_findPlays).room s m args below meth c D vwCl cI cC td A (fun a => a = ad0) (mv_Qi below args s D vwCl cI cC shX ad0 A) 0 0 shX [some (.inr (.inl 4)), some (.inl x1), some (.inl x2), some (.inl x3), none, none] [.inl s0] 54 w (f_X3_findPlays_54 k12 x1 x2 x3 s0 w) := by
  rw [f_X3_findPlays_54]
  refine ev_istore hX dX3_findPlays_54 rfl (L' := [some (.inr (.inl 4)), some (.inl x1), some (.inl x2), some (.inl x3), none, some (.inl s0)]) rfl ?_
  refine ev_aload_n hX dX3_findPlays_56 rfl ?_
  refine ev_getr (k := 1) hX (T := TX3) in_X3_findPlays_X3 rfl rfl rfl (show Cond.fieldLink RX3 9 "FiveShogi$Rules" "plainMoves" "[I" ∈ _ by decide +kernel) rfl dX3_findPlays_57 ?_
  refine ev_iload_n hX dX3_findPlays_60 rfl ?_
  refine ev_iload hX dX3_findPlays_61 rfl ?_
  refine ev_aload_n hX dX3_findPlays_63 rfl ?_
  refine ev_iload_n hX dX3_findPlays_64 rfl ?_
  refine ev_callVi hX (k0 := 4) (As := [.inl x3]) (rm := rm_X3_forcingSquares) (c_X3_forcingSquares l D cI cC td x3 w) (cwV 1 hX.ts gX3_findPlays_X3_forcingSquares rfl rfl rfl (by decide +kernel) ⟨Nat.le_of_ble_eq_true rfl, Nat.le_of_ble_eq_true rfl⟩) rfl rfl rfl rfl rfl rfl ⟨Nat.le_of_ble_eq_true rfl, Nat.le_of_ble_eq_true rfl⟩ dX3_findPlays_65 rfl (fun z11 hz11 => ?_)
  refine ev_iconst hX dX3_findPlays_68 (v := (-1)) (by decide +kernel) ?_
  refine ev_ixor hX dX3_findPlays_69 ?_
  refine ev_iand hX dX3_findPlays_70 ?_
  refine ev_iast hX rfl dX3_findPlays_71 (fun j12 => ?_)
  refine ev_aload_n hX dX3_findPlays_72 rfl ?_
  refine ev_getr (k := 2) hX (T := TX3) in_X3_findPlays_X3 rfl rfl rfl (show Cond.fieldLink RX3 15 "FiveShogi$Rules" "promotedMoves" "[I" ∈ _ by decide +kernel) rfl dX3_findPlays_73 ?_
  refine ev_iload_n hX dX3_findPlays_76 rfl ?_
  refine ev_iload hX dX3_findPlays_77 rfl ?_
  refine ev_aload_n hX dX3_findPlays_79 rfl ?_
  refine ev_iload_n hX dX3_findPlays_80 rfl ?_
  refine ev_callVi hX (k0 := 4) (As := [.inl x3]) (rm := rm_X3_promotingSquares) (c_X3_promotingSquares l D cI cC td x3 (mv_up z11.2 5 j12 (s0 &&& (z11.1 ^^^ (-1))))) (cwV 1 hX.ts gX3_findPlays_X3_promotingSquares rfl rfl rfl (by decide +kernel) ⟨Nat.le_of_ble_eq_true rfl, Nat.le_of_ble_eq_true rfl⟩) rfl rfl rfl rfl rfl rfl ⟨Nat.le_of_ble_eq_true rfl, Nat.le_of_ble_eq_true rfl⟩ dX3_findPlays_81 rfl (fun z13 hz13 => ?_)
  refine ev_iand hX dX3_findPlays_84 ?_
  refine ev_iast hX rfl dX3_findPlays_85 (fun j14 => ?_)
  refine ev_iload_n hX dX3_findPlays_86 rfl ?_
  refine ev_aload_n hX dX3_findPlays_87 rfl ?_
  refine ev_getr (k := 1) hX (T := TX3) in_X3_findPlays_X3 rfl rfl rfl (show Cond.fieldLink RX3 9 "FiveShogi$Rules" "plainMoves" "[I" ∈ _ by decide +kernel) rfl dX3_findPlays_88 ?_
  refine ev_iload_n hX dX3_findPlays_91 rfl ?_
  refine ev_iald hX rfl dX3_findPlays_92 (fun j15 => ?_)
  refine ev_callSi hX (As := [.inl ((mv_up z13.2 6 j14 (s0 &&& z13.1)) 5 j15)]) (rm := rm_J6_bitCount_0f7a4) (c_J6_bitCount_0f7a4 l D cI cC td ((mv_up z13.2 6 j14 (s0 &&& z13.1)) 5 j15) (mv_up z13.2 6 j14 (s0 &&& z13.1))) (va_cwS 1 hX.ts gX3_findPlays_J6_bitCount_0f7a4 rfl rfl rfl (by decide +kernel) ⟨Nat.le_of_ble_eq_true rfl, Nat.le_of_ble_eq_true rfl⟩) rfl rfl rfl ⟨Nat.le_of_ble_eq_true rfl, Nat.le_of_ble_eq_true rfl⟩ dX3_findPlays_93 rfl (fun z16 hz16 => ?_)
  refine ev_aload_n hX dX3_findPlays_96 rfl ?_
  refine ev_getr (k := 2) hX (T := TX3) in_X3_findPlays_X3 rfl rfl rfl (show Cond.fieldLink RX3 15 "FiveShogi$Rules" "promotedMoves" "[I" ∈ _ by decide +kernel) rfl dX3_findPlays_97 ?_
  refine ev_iload_n hX dX3_findPlays_100 rfl ?_
  refine ev_iald hX rfl dX3_findPlays_101 (fun j17 => ?_)
  refine ev_callSi hX (As := [.inl (z16.2 6 j17)]) (rm := rm_J6_bitCount_0f7a4) (c_J6_bitCount_0f7a4 l D cI cC td (z16.2 6 j17) z16.2) (va_cwS 1 hX.ts gX3_findPlays_J6_bitCount_0f7a4 rfl rfl rfl (by decide +kernel) ⟨Nat.le_of_ble_eq_true rfl, Nat.le_of_ble_eq_true rfl⟩) rfl rfl rfl ⟨Nat.le_of_ble_eq_true rfl, Nat.le_of_ble_eq_true rfl⟩ dX3_findPlays_102 rfl (fun z18 hz18 => ?_)
  refine ev_iadd hX dX3_findPlays_105 ?_
  refine ev_iadd hX dX3_findPlays_106 ?_
  refine ev_istore_n hX dX3_findPlays_107 rfl (L' := [some (.inr (.inl 4)), some (.inl x1), some (.inl (x2 + (z16.1 + z18.1))), some (.inl x3), none, some (.inl s0)]) rfl ?_
  refine ev_iinc hX dX3_findPlays_108 rfl (v := 1) (by decide +kernel) (L' := [some (.inr (.inl 4)), some (.inl x1), some (.inl (x2 + (z16.1 + z18.1))), some (.inl (x3 + 1)), none, some (.inl s0)]) rfl ?_
  refine ev_goto (tgt := 12) hX dX3_findPlays_111 (by decide) ?_
  refine ev_mask [true, true, true, true, false, false] (L' := [some (.inr (.inl 4)), some (.inl x1), some (.inl (x2 + (z16.1 + z18.1))), some (.inl (x3 + 1)), none, none]) rfl rfl ?_
  exact hk12 x1 (x2 + (z16.1 + z18.1)) (x3 + 1) z18.2
set_option maxHeartbeats 4000000 in
set_option maxRecDepth 100000 in
theorem e_X3_findPlays_38 (hX : mv_X p s m args meth c D vwCl cI cC tbX td A cX3_findPlays 6 RX3 wsX3_findPlays) (hr : meth.sig.returnType = (some .int)) (k12 : Int32 → Int32 → Int32 → mvW → Option (Int32 × mvW)) (hk12 : ∀ (x1 : Int32) (x2 : Int32) (x3 : Int32) (w : mvW), EV p l e (headSpec wsX3_findPlays rm_X3_findPlays).room s m args below meth c D vwCl cI cC td A (fun a => a = ad0) (mv_Qi below args s D vwCl cI cC shX ad0 A) 0 0 shX [some (.inr (.inl 4)), some (.inl x1), some (.inl x2), some (.inl x3), none, none] [] 12 w (k12 x1 x2 x3 w)) (x1 : Int32) (x2 : Int32) (x3 : Int32) (s0 : Int32) (w : mvW) : EV p l e (headSpec wsX3_findPlays rm_X3_findPlays).room s m args below meth c D vwCl cI cC td A (fun a => a = ad0) (mv_Qi below args s D vwCl cI cC shX ad0 A) 0 0 shX [some (.inr (.inl 4)), some (.inl x1), some (.inl x2), some (.inl x3), none, none] [.inl s0] 38 w (f_X3_findPlays_38 k12 x1 x2 x3 s0 w) := by
  rw [f_X3_findPlays_38]
  refine ev_istore hX dX3_findPlays_38 rfl (L' := [some (.inr (.inl 4)), some (.inl x1), some (.inl x2), some (.inl x3), some (.inl s0), none]) rfl ?_
  refine ev_iload hX dX3_findPlays_40 rfl ?_
  refine ev_if_eq (tgt := 53) hX dX3_findPlays_42 (by decide) ?_ ?_
  · refine ev_iconst hX dX3_findPlays_53 (v := 0) (by decide +kernel) ?_
    refine ev_mask [true, true, true, true, false, false] (L' := [some (.inr (.inl 4)), some (.inl x1), some (.inl x2), some (.inl x3), none, none]) rfl rfl ?_
    exact e_X3_findPlays_54 hX hr k12 hk12 x1 x2 x3 0 w
  · refine ev_aload_n hX dX3_findPlays_45 rfl ?_
    refine ev_iload_n hX dX3_findPlays_46 rfl ?_
    refine ev_callVi hX (k0 := 4) (As := [.inl x3]) (rm := rm_X3_safeTargets) (c_X3_safeTargets l D cI cC td x3 w) (cwV 1 hX.ts gX3_findPlays_X3_safeTargets rfl rfl rfl (by decide +kernel) ⟨Nat.le_of_ble_eq_true rfl, Nat.le_of_ble_eq_true rfl⟩) rfl rfl rfl rfl rfl rfl ⟨Nat.le_of_ble_eq_true rfl, Nat.le_of_ble_eq_true rfl⟩ dX3_findPlays_47 rfl (fun z7 hz7 => ?_)
    refine ev_goto (tgt := 54) hX dX3_findPlays_50 (by decide) ?_
    refine ev_mask [true, true, true, true, false, false] (L' := [some (.inr (.inl 4)), some (.inl x1), some (.inl x2), some (.inl x3), none, none]) rfl rfl ?_
    exact e_X3_findPlays_54 hX hr k12 hk12 x1 x2 x3 z7.1 z7.2
set_option maxHeartbeats 4000000 in
set_option maxRecDepth 100000 in
theorem e_X3_findPlays_12 (hX : mv_X p s m args meth c D vwCl cI cC tbX td A cX3_findPlays 6 RX3 wsX3_findPlays) (hr : meth.sig.returnType = (some .int)) : ∀ (n : Nat) (x1 : Int32) (x2 : Int32) (x3 : Int32) (w : mvW), EV p l e (headSpec wsX3_findPlays rm_X3_findPlays).room s m args below meth c D vwCl cI cC td A (fun a => a = ad0) (mv_Qi below args s D vwCl cI cC shX ad0 A) 0 0 shX [some (.inr (.inl 4)), some (.inl x1), some (.inl x2), some (.inl x3), none, none] [] 12 w (f_X3_findPlays_12 n x1 x2 x3 w) := by
  intro n
  induction n with
  | zero => intro x1 x2 x3 w; exact ev_none
  | succ n ih =>
    intro x1 x2 x3 w
    rw [f_X3_findPlays_12]
    refine ev_iload_n hX dX3_findPlays_12 rfl ?_
    refine ev_bipush hX dX3_findPlays_13 (v := 25) (by decide +kernel) ?_
    refine ev_icmp_ge (tgt := 114) hX dX3_findPlays_15 (by decide) ?_ ?_
    · refine ev_aload_n hX dX3_findPlays_114 rfl ?_
      refine ev_callVi hX (k0 := 4) (As := []) (rm := rm_X3_safeDrops) (c_X3_safeDrops l D cI cC td w) (cwV 0 hX.ts gX3_findPlays_X3_safeDrops rfl rfl rfl (by decide +kernel) ⟨Nat.le_of_ble_eq_true rfl, Nat.le_of_ble_eq_true rfl⟩) rfl rfl rfl rfl rfl rfl ⟨Nat.le_of_ble_eq_true rfl, Nat.le_of_ble_eq_true rfl⟩ dX3_findPlays_115 rfl (fun z2 hz2 => ?_)
      refine ev_istore_n hX dX3_findPlays_118 rfl (L' := [some (.inr (.inl 4)), some (.inl x1), some (.inl x2), some (.inl z2.1), none, none]) rfl ?_
      refine ev_iconst hX dX3_findPlays_119 (v := 1) (by decide +kernel) ?_
      refine ev_istore hX dX3_findPlays_120 rfl (L' := [some (.inr (.inl 4)), some (.inl x1), some (.inl x2), some (.inl z2.1), some (.inl 1), none]) rfl ?_
      refine ev_mask [true, false, true, true, true, false] (L' := [some (.inr (.inl 4)), none, some (.inl x2), some (.inl z2.1), some (.inl 1), none]) rfl rfl ?_
      exact e_X3_findPlays_122 hX hr 4096 x2 z2.1 1 z2.2
    · refine ev_aload_n hX dX3_findPlays_18 rfl ?_
      refine ev_getr (k := 0) hX (T := TX3) in_X3_findPlays_X3 rfl rfl rfl (show Cond.fieldLink RX3 28 "FiveShogi$Rules" "position" "LFiveShogi$Position;" ∈ _ by decide +kernel) rfl dX3_findPlays_19 ?_
      refine ev_iload_n hX dX3_findPlays_22 rfl ?_
      refine ev_callVi hX (k0 := 1) (As := [.inl x3]) (rm := rm_X2_manOn) (c_X2_manOn l D cI cC td x3 w) (cwV 1 hX.ts gX3_findPlays_X2_manOn rfl rfl rfl (by decide +kernel) ⟨Nat.le_of_ble_eq_true rfl, Nat.le_of_ble_eq_true rfl⟩) rfl rfl rfl rfl rfl rfl ⟨Nat.le_of_ble_eq_true rfl, Nat.le_of_ble_eq_true rfl⟩ dX3_findPlays_23 rfl (fun z3 hz3 => ?_)
      refine ev_callNi hX (As := [.inl z3.1]) (rm := rm_X4_sideOf) (c_X4_sideOf l D cI cC td z3.1 z3.2) ⟨va_cnB (host := "FiveShogi") 1 hX.ts gX3_findPlays_X4_sideOf_n70 rfl rfl rfl (hX.sta.2.1 (_, 70, _, _) (List.mem_of_getElem? (i := 7) rfl)) (hX.ts _ (show Cond.initialized RX4 ∈ _ by decide +kernel)) (by decide +kernel) ⟨Nat.le_of_ble_eq_true rfl, Nat.le_of_ble_eq_true rfl⟩, hX.ts _ (show Cond.static yX4_sideOf ∈ _ by decide +kernel), trivial⟩ rfl rfl rfl ⟨Nat.le_of_ble_eq_true rfl, Nat.le_of_ble_eq_true rfl⟩ dX3_findPlays_26 rfl (fun z4 hz4 => ?_)
      refine ev_iload_n hX dX3_findPlays_29 rfl ?_
      refine ev_icmp_ne (tgt := 37) hX dX3_findPlays_30 (by decide) ?_ ?_
      · refine ev_iconst hX dX3_findPlays_37 (v := 0) (by decide +kernel) ?_
        refine ev_mask [true, true, true, true, false, false] (L' := [some (.inr (.inl 4)), some (.inl x1), some (.inl x2), some (.inl x3), none, none]) rfl rfl ?_
        exact e_X3_findPlays_38 hX hr (fun x1' x2' x3' w' => f_X3_findPlays_12 n x1' x2' x3' w') (fun x1' x2' x3' w' => ih x1' x2' x3' w') x1 x2 x3 0 z4.2
      · refine ev_iconst hX dX3_findPlays_33 (v := 1) (by decide +kernel) ?_
        refine ev_goto (tgt := 38) hX dX3_findPlays_34 (by decide) ?_
        refine ev_mask [true, true, true, true, false, false] (L' := [some (.inr (.inl 4)), some (.inl x1), some (.inl x2), some (.inl x3), none, none]) rfl rfl ?_
        exact e_X3_findPlays_38 hX hr (fun x1' x2' x3' w' => f_X3_findPlays_12 n x1' x2' x3' w') (fun x1' x2' x3' w' => ih x1' x2' x3' w') x1 x2 x3 1 z4.2
set_option maxHeartbeats 4000000 in
set_option maxRecDepth 100000 in
theorem c_X3_findPlays (l : Launch) (D : va_G) (cI cC : ClassId) (td : Nat → Option Nat) (w : mvW) : ∀ z, f_X3_findPlays w = some z → mv_Ci l D vwCl cI cC tbX td yX3_findPlays wsX3_findPlays rm_X3_findPlays shX w [.inr (.inl 4)] z := by
  refine mv_starti (own := RX3) rfl (by decide) rfl rfl (L0 := [some (.inr (.inl 4)), none, none, none, none, none]) rfl (fun p e s m args below meth c A ad0 hX hr => ?_)
  rw [f_X3_findPlays]
  refine ev_aload_n hX dX3_findPlays_0 rfl ?_
  refine ev_getr (k := 0) hX (T := TX3) in_X3_findPlays_X3 rfl rfl rfl (show Cond.fieldLink RX3 28 "FiveShogi$Rules" "position" "LFiveShogi$Position;" ∈ _ by decide +kernel) rfl dX3_findPlays_1 ?_
  refine ev_callVi hX (k0 := 1) (As := []) (rm := rm_X2_sideToPlay) (c_X2_sideToPlay l D cI cC td w) (cwV 0 hX.ts gX3_findPlays_X2_sideToPlay rfl rfl rfl (by decide +kernel) ⟨Nat.le_of_ble_eq_true rfl, Nat.le_of_ble_eq_true rfl⟩) rfl rfl rfl rfl rfl rfl ⟨Nat.le_of_ble_eq_true rfl, Nat.le_of_ble_eq_true rfl⟩ dX3_findPlays_4 rfl (fun z1 hz1 => ?_)
  refine ev_istore_n hX dX3_findPlays_7 rfl (L' := [some (.inr (.inl 4)), some (.inl z1.1), none, none, none, none]) rfl ?_
  refine ev_iconst hX dX3_findPlays_8 (v := 0) (by decide +kernel) ?_
  refine ev_istore_n hX dX3_findPlays_9 rfl (L' := [some (.inr (.inl 4)), some (.inl z1.1), some (.inl 0), none, none, none]) rfl ?_
  refine ev_iconst hX dX3_findPlays_10 (v := 0) (by decide +kernel) ?_
  refine ev_istore_n hX dX3_findPlays_11 rfl (L' := [some (.inr (.inl 4)), some (.inl z1.1), some (.inl 0), some (.inl 0), none, none]) rfl ?_
  refine ev_mask [true, true, true, true, false, false] (L' := [some (.inr (.inl 4)), some (.inl z1.1), some (.inl 0), some (.inl 0), none, none]) rfl rfl ?_
  exact e_X3_findPlays_12 hX hr 4096 z1.1 0 0 z1.2
def rm_X4_setSide : Room := { frames := 6, cells := 0, slots := 0, locals := 149 }
set_option maxRecDepth 20000 in
theorem in_X4_setSide_X4 : ∀ w ∈ u_ws RX4 TX4 7, w ∈ wsX4_setSide := by decide +kernel
set_option maxHeartbeats 4000000 in
set_option maxRecDepth 100000 in
theorem c_X4_setSide (l : Launch) (D : va_G) (cI cC : ClassId) (td : Nat → Option Nat) (a1 : Int32) (w : mvW) : ∀ z, f_X4_setSide a1 w = some z → mv_Ci l D vwCl cI cC tbX td yX4_setSide wsX4_setSide rm_X4_setSide shX w [.inr (.inl 0), .inl a1] z := by
  refine mv_starti (own := RX4) rfl (by decide) rfl rfl (L0 := [some (.inr (.inl 0)), some (.inl a1)]) rfl (fun p e s m args below meth c A ad0 hX hr => ?_)
  rw [f_X4_setSide]
  refine ev_iload_n hX dX4_setSide_0 rfl ?_
  refine ev_callSi hX (As := [.inl a1]) (rm := rm_X4_isSide) (c_X4_isSide l D cI cC td a1 w) (cwS 1 hX.ts gX4_setSide_X4_isSide rfl rfl rfl (by decide +kernel) ⟨Nat.le_of_ble_eq_true rfl, Nat.le_of_ble_eq_true rfl⟩) rfl rfl rfl ⟨Nat.le_of_ble_eq_true rfl, Nat.le_of_ble_eq_true rfl⟩ dX4_setSide_1 rfl (fun z1 hz1 => ?_)
  refine ev_if_ne (tgt := 11) hX dX4_setSide_4 (by decide) ?_ ?_
  · refine ev_aload_n hX dX4_setSide_11 rfl ?_
    refine ev_getr (k := 0) hX (T := TX4) in_X4_setSide_X4 rfl rfl rfl (show Cond.fieldLink RX4 12 "FiveShogi" "position" "LFiveShogi$Position;" ∈ _ by decide +kernel) rfl dX4_setSide_12 ?_
    refine ev_callVi hX (k0 := 1) (As := []) (rm := rm_X2_sideToPlay) (c_X2_sideToPlay l D cI cC td z1.2) (cwV 0 hX.ts gX4_setSide_X2_sideToPlay rfl rfl rfl (by decide +kernel) ⟨Nat.le_of_ble_eq_true rfl, Nat.le_of_ble_eq_true rfl⟩) rfl rfl rfl rfl rfl rfl ⟨Nat.le_of_ble_eq_true rfl, Nat.le_of_ble_eq_true rfl⟩ dX4_setSide_15 rfl (fun z2 hz2 => ?_)
    refine ev_iload_n hX dX4_setSide_18 rfl ?_
    refine ev_icmp_ne (tgt := 26) hX dX4_setSide_19 (by decide) ?_ ?_
    · refine ev_aload_n hX dX4_setSide_26 rfl ?_
      refine ev_callVv hX (k0 := 0) (As := []) (rm := rm_X4_recordChange) (c_X4_recordChange l D cI cC td z2.2) (cwV 0 hX.ts gX4_setSide_X4_recordChange rfl rfl rfl (by decide +kernel) ⟨Nat.le_of_ble_eq_true rfl, Nat.le_of_ble_eq_true rfl⟩) rfl rfl rfl rfl rfl rfl ⟨Nat.le_of_ble_eq_true rfl, Nat.le_of_ble_eq_true rfl⟩ dX4_setSide_27 rfl (fun z3 hz3 => ?_)
      refine ev_aload_n hX dX4_setSide_30 rfl ?_
      refine ev_getr (k := 0) hX (T := TX4) in_X4_setSide_X4 rfl rfl rfl (show Cond.fieldLink RX4 12 "FiveShogi" "position" "LFiveShogi$Position;" ∈ _ by decide +kernel) rfl dX4_setSide_31 ?_
      refine ev_iload_n hX dX4_setSide_34 rfl ?_
      refine ev_callVv hX (k0 := 1) (As := [.inl a1]) (rm := rm_X2_setSideToPlay) (c_X2_setSideToPlay l D cI cC td a1 z3) (cwV 1 hX.ts gX4_setSide_X2_setSideToPlay rfl rfl rfl (by decide +kernel) ⟨Nat.le_of_ble_eq_true rfl, Nat.le_of_ble_eq_true rfl⟩) rfl rfl rfl rfl rfl rfl ⟨Nat.le_of_ble_eq_true rfl, Nat.le_of_ble_eq_true rfl⟩ dX4_setSide_35 rfl (fun z4 hz4 => ?_)
      refine ev_aload_n hX dX4_setSide_38 rfl ?_
      refine ev_getr (k := 1) hX (T := TX4) in_X4_setSide_X4 rfl rfl rfl (show Cond.fieldLink RX4 21 "FiveShogi" "rules" "LFiveShogi$Rules;" ∈ _ by decide +kernel) rfl dX4_setSide_39 ?_
      refine ev_callVi hX (k0 := 4) (As := []) (rm := rm_X3_findPlays) (c_X3_findPlays l D cI cC td z4) (cwV 0 hX.ts gX4_setSide_X3_findPlays rfl rfl rfl (by decide +kernel) ⟨Nat.le_of_ble_eq_true rfl, Nat.le_of_ble_eq_true rfl⟩) rfl rfl rfl rfl rfl rfl ⟨Nat.le_of_ble_eq_true rfl, Nat.le_of_ble_eq_true rfl⟩ dX4_setSide_42 rfl (fun z5 hz5 => ?_)
      exact ev_ireti hX hr dX4_setSide_45
    · refine ev_sipush hX dX4_setSide_22 (v := (-1005)) (by decide +kernel) ?_
      exact ev_ireti hX hr dX4_setSide_25
  · refine ev_sipush hX dX4_setSide_7 (v := (-1001)) (by decide +kernel) ?_
    exact ev_ireti hX hr dX4_setSide_10
def rm_X5_plays : Room := { frames := 7, cells := 0, slots := 0, locals := 175 }
set_option maxHeartbeats 4000000 in
set_option maxRecDepth 100000 in
theorem e_X5_plays_4 (hX : mv_X p s m args meth c D vwCl cI cC tbX td A cX5_plays 4 RX5 wsX5_plays) (hr : meth.sig.returnType = (some .int)) : ∀ (n : Nat) (x1 : Int32) (x2 : Int32) (x3 : Int32) (w : mvW), EV p l e (headSpec wsX5_plays rm_X5_plays).room s m args below meth c D vwCl cI cC td A (fun a => a = ad0) (mv_Qi below args s D vwCl cI cC shM ad0 A) 0 0 shM [some (.inr (.inl 0)), some (.inl x1), some (.inl x2), some (.inl x3)] [] 4 w (f_X5_plays_4 n x1 x2 x3 w) := by
  intro n
  induction n with
  | zero => intro x1 x2 x3 w; exact ev_none
  | succ n ih =>
    intro x1 x2 x3 w
    rw [f_X5_plays_4]
    refine ev_iload_n hX dX5_plays_4 rfl ?_
    refine ev_sipush hX dX5_plays_5 (v := 1375) (by decide +kernel) ?_
    refine ev_icmp_ge (tgt := 34) hX dX5_plays_8 (by decide) ?_ ?_
    · refine ev_iload_n hX dX5_plays_34 rfl ?_
      exact ev_ireti hX hr dX5_plays_35
    · refine ev_iload_n hX dX5_plays_11 rfl ?_
      refine ev_aload_n hX dX5_plays_12 rfl ?_
      refine ev_iload_n hX dX5_plays_13 rfl ?_
      refine ev_iload_n hX dX5_plays_14 rfl ?_
      refine ev_callVi hX (k0 := 0) (As := [.inl x1, .inl x3]) (rm := rm_X5_reason) (c_X5_reason l D cI cC td x1 x3 w) (cwV 2 hX.ts gX5_plays_X5_reason rfl rfl rfl (by decide +kernel) ⟨Nat.le_of_ble_eq_true rfl, Nat.le_of_ble_eq_true rfl⟩) rfl rfl rfl rfl rfl rfl ⟨Nat.le_of_ble_eq_true rfl, Nat.le_of_ble_eq_true rfl⟩ dX5_plays_15 rfl (fun z1 hz1 => ?_)
      refine ev_if_ne (tgt := 25) hX dX5_plays_18 (by decide) ?_ ?_
      · refine ev_iconst hX dX5_plays_25 (v := 0) (by decide +kernel) ?_
        refine ev_iadd hX dX5_plays_26 ?_
        refine ev_istore_n hX dX5_plays_27 rfl (L' := [some (.inr (.inl 0)), some (.inl x1), some (.inl (x2 + 0)), some (.inl x3)]) rfl ?_
        refine ev_iinc hX dX5_plays_28 rfl (v := 1) (by decide +kernel) (L' := [some (.inr (.inl 0)), some (.inl x1), some (.inl (x2 + 0)), some (.inl (x3 + 1))]) rfl ?_
        refine ev_goto (tgt := 4) hX dX5_plays_31 (by decide) ?_
        refine ev_mask [true, true, true, true] (L' := [some (.inr (.inl 0)), some (.inl x1), some (.inl (x2 + 0)), some (.inl (x3 + 1))]) rfl rfl ?_
        exact ih x1 (x2 + 0) (x3 + 1) z1.2
      · refine ev_iconst hX dX5_plays_21 (v := 1) (by decide +kernel) ?_
        refine ev_goto (tgt := 26) hX dX5_plays_22 (by decide) ?_
        refine ev_iadd hX dX5_plays_26 ?_
        refine ev_istore_n hX dX5_plays_27 rfl (L' := [some (.inr (.inl 0)), some (.inl x1), some (.inl (x2 + 1)), some (.inl x3)]) rfl ?_
        refine ev_iinc hX dX5_plays_28 rfl (v := 1) (by decide +kernel) (L' := [some (.inr (.inl 0)), some (.inl x1), some (.inl (x2 + 1)), some (.inl (x3 + 1))]) rfl ?_
        refine ev_goto (tgt := 4) hX dX5_plays_31 (by decide) ?_
        refine ev_mask [true, true, true, true] (L' := [some (.inr (.inl 0)), some (.inl x1), some (.inl (x2 + 1)), some (.inl (x3 + 1))]) rfl rfl ?_
        exact ih x1 (x2 + 1) (x3 + 1) z1.2
set_option maxHeartbeats 4000000 in
set_option maxRecDepth 100000 in
theorem c_X5_plays (l : Launch) (D : va_G) (cI cC : ClassId) (td : Nat → Option Nat) (a1 : Int32) (w : mvW) : ∀ z, f_X5_plays a1 w = some z → mv_Ci l D vwCl cI cC tbX td yX5_plays wsX5_plays rm_X5_plays shM w [.inr (.inl 0), .inl a1] z := by
  refine mv_starti (own := RX5) rfl (by decide) rfl rfl (L0 := [some (.inr (.inl 0)), some (.inl a1), none, none]) rfl (fun p e s m args below meth c A ad0 hX hr => ?_)
  rw [f_X5_plays]
  refine ev_iconst hX dX5_plays_0 (v := 0) (by decide +kernel) ?_
  refine ev_istore_n hX dX5_plays_1 rfl (L' := [some (.inr (.inl 0)), some (.inl a1), some (.inl 0), none]) rfl ?_
  refine ev_iconst hX dX5_plays_2 (v := 0) (by decide +kernel) ?_
  refine ev_istore_n hX dX5_plays_3 rfl (L' := [some (.inr (.inl 0)), some (.inl a1), some (.inl 0), some (.inl 0)]) rfl ?_
  refine ev_mask [true, true, true, true] (L' := [some (.inr (.inl 0)), some (.inl a1), some (.inl 0), some (.inl 0)]) rfl rfl ?_
  exact e_X5_plays_4 hX hr 4096 a1 0 0 w
def rm_X5_setSide : Room := { frames := 8, cells := 0, slots := 0, locals := 198 }
set_option maxRecDepth 20000 in
theorem in_X5_setSide_X5 : ∀ w ∈ u_ws RX5 TX5 8, w ∈ wsX5_setSide := by decide +kernel
set_option maxHeartbeats 4000000 in
set_option maxRecDepth 100000 in
theorem c_X5_setSide (l : Launch) (D : va_G) (cI cC : ClassId) (td : Nat → Option Nat) (a1 : Int32) (w : mvW) : ∀ z, f_X5_setSide a1 w = some z → mv_Ci l D vwCl cI cC tbX td yX5_setSide wsX5_setSide rm_X5_setSide shM w [.inr (.inl 0), .inl a1] z := by
  refine mv_starti (own := RX5) rfl (by decide) rfl rfl (L0 := [some (.inr (.inl 0)), some (.inl a1)]) rfl (fun p e s m args below meth c A ad0 hX hr => ?_)
  rw [f_X5_setSide]
  refine ev_iload_n hX dX5_setSide_0 rfl ?_
  refine ev_callSi hX (As := [.inl a1]) (rm := rm_X5_isSide) (c_X5_isSide l D cI cC td a1 w) (cwS 1 hX.ts gX5_setSide_X5_isSide rfl rfl rfl (by decide +kernel) ⟨Nat.le_of_ble_eq_true rfl, Nat.le_of_ble_eq_true rfl⟩) rfl rfl rfl ⟨Nat.le_of_ble_eq_true rfl, Nat.le_of_ble_eq_true rfl⟩ dX5_setSide_1 rfl (fun z1 hz1 => ?_)
  refine ev_if_ne (tgt := 11) hX dX5_setSide_4 (by decide) ?_ ?_
  · refine ev_aload_n hX dX5_setSide_11 rfl ?_
    refine ev_getr (k := 0) hX (T := TX5) in_X5_setSide_X5 rfl rfl rfl (show Cond.fieldLink RX5 7 "FiveShogiModel" "s" "[I" ∈ _ by decide +kernel) rfl dX5_setSide_12 ?_
    refine ev_bipush hX dX5_setSide_15 (v := 35) (by decide +kernel) ?_
    refine ev_ialdc (j := 35) hX rfl (by decide +kernel) dX5_setSide_17 ?_
    refine ev_iload_n hX dX5_setSide_18 rfl ?_
    refine ev_icmp_ne (tgt := 26) hX dX5_setSide_19 (by decide) ?_ ?_
    · refine ev_aload_n hX dX5_setSide_26 rfl ?_
      refine ev_callVv hX (k0 := 0) (As := []) (rm := rm_X5_remembers) (c_X5_remembers l D cI cC td z1.2) (cwV 0 hX.ts gX5_setSide_X5_remembers rfl rfl rfl (by decide +kernel) ⟨Nat.le_of_ble_eq_true rfl, Nat.le_of_ble_eq_true rfl⟩) rfl rfl rfl rfl rfl rfl ⟨Nat.le_of_ble_eq_true rfl, Nat.le_of_ble_eq_true rfl⟩ dX5_setSide_27 rfl (fun z2 hz2 => ?_)
      refine ev_aload_n hX dX5_setSide_30 rfl ?_
      refine ev_getr (k := 0) hX (T := TX5) in_X5_setSide_X5 rfl rfl rfl (show Cond.fieldLink RX5 7 "FiveShogiModel" "s" "[I" ∈ _ by decide +kernel) rfl dX5_setSide_31 ?_
      refine ev_bipush hX dX5_setSide_34 (v := 35) (by decide +kernel) ?_
      refine ev_iload_n hX dX5_setSide_36 rfl ?_
      refine ev_iastc (j := 35) hX rfl (by decide +kernel) dX5_setSide_37 ?_
      refine ev_aload_n hX dX5_setSide_38 rfl ?_
      refine ev_iconst hX dX5_setSide_39 (v := 0) (by decide +kernel) ?_
      refine ev_callVi hX (k0 := 0) (As := [.inl 0]) (rm := rm_X5_plays) (c_X5_plays l D cI cC td 0 (mv_up z2 1 35 a1)) (cwV 1 hX.ts gX5_setSide_X5_plays rfl rfl rfl (by decide +kernel) ⟨Nat.le_of_ble_eq_true rfl, Nat.le_of_ble_eq_true rfl⟩) rfl rfl rfl rfl rfl rfl ⟨Nat.le_of_ble_eq_true rfl, Nat.le_of_ble_eq_true rfl⟩ dX5_setSide_40 rfl (fun z3 hz3 => ?_)
      exact ev_ireti hX hr dX5_setSide_43
    · refine ev_sipush hX dX5_setSide_22 (v := (-1005)) (by decide +kernel) ?_
      exact ev_ireti hX hr dX5_setSide_25
  · refine ev_sipush hX dX5_setSide_7 (v := (-1001)) (by decide +kernel) ?_
    exact ev_ireti hX hr dX5_setSide_10
def rm_X1_isFull : Room := { frames := 0, cells := 0, slots := 0, locals := 0 }
set_option maxRecDepth 20000 in
theorem in_X1_isFull_X1 : ∀ w ∈ u_ws RX1 TX1 5, w ∈ wsX1_isFull := by decide +kernel
set_option maxHeartbeats 4000000 in
set_option maxRecDepth 100000 in
theorem c_X1_isFull (l : Launch) (D : va_G) (cI cC : ClassId) (td : Nat → Option Nat) (w : mvW) : ∀ z, f_X1_isFull w = some z → mv_Ci l D vwCl cI cC tbX td yX1_isFull wsX1_isFull rm_X1_isFull shX w [.inr (.inl 11)] z := by
  refine mv_starti (own := RX1) rfl (by decide) rfl rfl (L0 := [some (.inr (.inl 11))]) rfl (fun p e s m args below meth c A ad0 hX hr => ?_)
  rw [f_X1_isFull]
  refine ev_aload_n hX dX1_isFull_0 rfl ?_
  refine ev_get (k := 1) hX (T := TX1) in_X1_isFull_X1 rfl rfl rfl (show Cond.fieldLink RX1 15 "FiveShogi$PlayText" "size" "I" ∈ _ by decide +kernel) rfl dX1_isFull_1 ?_
  refine ev_bipush hX dX1_isFull_4 (v := 60) (by decide +kernel) ?_
  refine ev_icmp_lt (tgt := 13) hX dX1_isFull_6 (by decide) ?_ ?_
  · refine ev_iconst hX dX1_isFull_13 (v := 0) (by decide +kernel) ?_
    exact ev_iretz0 hX hr dX1_isFull_14
  · refine ev_iconst hX dX1_isFull_9 (v := 1) (by decide +kernel) ?_
    refine ev_goto (tgt := 14) hX dX1_isFull_10 (by decide) ?_
    exact ev_iretz1 hX hr dX1_isFull_14
def rm_X1_append : Room := { frames := 0, cells := 0, slots := 0, locals := 0 }
set_option maxRecDepth 20000 in
theorem in_X1_append_X1 : ∀ w ∈ u_ws RX1 TX1 5, w ∈ wsX1_append := by decide +kernel
set_option maxHeartbeats 4000000 in
set_option maxRecDepth 100000 in
theorem c_X1_append (l : Launch) (D : va_G) (cI cC : ClassId) (td : Nat → Option Nat) (a1 : Int32) (w : mvW) : ∀ z, f_X1_append a1 w = some z → mv_Cv l D vwCl cI cC tbX td yX1_append wsX1_append rm_X1_append shX w [.inr (.inl 11), .inl a1] z := by
  refine mv_startv (own := RX1) rfl (by decide) rfl rfl (L0 := [some (.inr (.inl 11)), some (.inl a1)]) rfl (fun p e s m args below meth c A ad0 hX hr => ?_)
  rw [f_X1_append]
  refine ev_aload_n hX dX1_append_0 rfl ?_
  refine ev_get (k := 1) hX (T := TX1) in_X1_append_X1 rfl rfl rfl (show Cond.fieldLink RX1 15 "FiveShogi$PlayText" "size" "I" ∈ _ by decide +kernel) rfl dX1_append_1 ?_
  refine ev_if_lt (tgt := 39) hX dX1_append_4 (by decide) ?_ ?_
  · exact ev_vret hX hr dX1_append_39
  · refine ev_aload_n hX dX1_append_7 rfl ?_
    refine ev_get (k := 1) hX (T := TX1) in_X1_append_X1 rfl rfl rfl (show Cond.fieldLink RX1 15 "FiveShogi$PlayText" "size" "I" ∈ _ by decide +kernel) rfl dX1_append_8 ?_
    refine ev_aload_n hX dX1_append_11 rfl ?_
    refine ev_getr (k := 0) hX (T := TX1) in_X1_append_X1 rfl rfl rfl (show Cond.fieldLink RX1 11 "FiveShogi$PlayText" "signs" "[C" ∈ _ by decide +kernel) rfl dX1_append_12 ?_
    refine ev_alen hX rfl (v := 60) (by decide +kernel) dX1_append_15 ?_
    refine ev_icmp_ge (tgt := 39) hX dX1_append_16 (by decide) ?_ ?_
    · exact ev_vret hX hr dX1_append_39
    · refine ev_aload_n hX dX1_append_19 rfl ?_
      refine ev_getr (k := 0) hX (T := TX1) in_X1_append_X1 rfl rfl rfl (show Cond.fieldLink RX1 11 "FiveShogi$PlayText" "signs" "[C" ∈ _ by decide +kernel) rfl dX1_append_20 ?_
      refine ev_aload_n hX dX1_append_23 rfl ?_
      refine ev_get (k := 1) hX (T := TX1) in_X1_append_X1 rfl rfl rfl (show Cond.fieldLink RX1 15 "FiveShogi$PlayText" "size" "I" ∈ _ by decide +kernel) rfl dX1_append_24 ?_
      refine ev_iload_n hX dX1_append_27 rfl ?_
      refine ev_cast hX rfl dX1_append_28 (fun j1 => ?_)
      refine ev_aload_n hX dX1_append_29 rfl ?_
      refine ev_dup hX dX1_append_30 ?_
      refine ev_get (k := 1) hX (T := TX1) in_X1_append_X1 rfl rfl rfl (show Cond.fieldLink RX1 15 "FiveShogi$PlayText" "size" "I" ∈ _ by decide +kernel) rfl dX1_append_31 ?_
      refine ev_iconst hX dX1_append_34 (v := 1) (by decide +kernel) ?_
      refine ev_iadd hX dX1_append_35 ?_
      refine ev_put (k := 1) hX (T := TX1) (ty := .int) in_X1_append_X1 tyX1 tyX1_ok nmX1 rfl rfl rfl (show Cond.fieldLink RX1 15 "FiveShogi$PlayText" "size" "I" ∈ _ by decide +kernel) rfl (by decide +kernel) rfl rfl rfl dX1_append_36 ?_
      exact ev_vret hX hr dX1_append_39
def rm_X1_size : Room := { frames := 0, cells := 0, slots := 0, locals := 0 }
set_option maxRecDepth 20000 in
theorem in_X1_size_X1 : ∀ w ∈ u_ws RX1 TX1 5, w ∈ wsX1_size := by decide +kernel
set_option maxHeartbeats 4000000 in
set_option maxRecDepth 100000 in
theorem c_X1_size (l : Launch) (D : va_G) (cI cC : ClassId) (td : Nat → Option Nat) (w : mvW) : ∀ z, f_X1_size w = some z → mv_Ci l D vwCl cI cC tbX td yX1_size wsX1_size rm_X1_size shX w [.inr (.inl 11)] z := by
  refine mv_starti (own := RX1) rfl (by decide) rfl rfl (L0 := [some (.inr (.inl 11))]) rfl (fun p e s m args below meth c A ad0 hX hr => ?_)
  rw [f_X1_size]
  refine ev_aload_n hX dX1_size_0 rfl ?_
  refine ev_get (k := 1) hX (T := TX1) in_X1_size_X1 rfl rfl rfl (show Cond.fieldLink RX1 15 "FiveShogi$PlayText" "size" "I" ∈ _ by decide +kernel) rfl dX1_size_1 ?_
  exact ev_ireti hX hr dX1_size_4
def rm_X4_type : Room := { frames := 1, cells := 0, slots := 0, locals := 21 }
set_option maxRecDepth 20000 in
theorem in_X4_type_X4 : ∀ w ∈ u_ws RX4 TX4 7, w ∈ wsX4_type := by decide +kernel
set_option maxHeartbeats 4000000 in
set_option maxRecDepth 100000 in
theorem c_X4_type (l : Launch) (D : va_G) (cI cC : ClassId) (td : Nat → Option Nat) (a1 : Int32) (w : mvW) : ∀ z, f_X4_type a1 w = some z → mv_Ci l D vwCl cI cC tbX td yX4_type wsX4_type rm_X4_type shX w [.inr (.inl 0), .inl a1] z := by
  refine mv_starti (own := RX4) rfl (by decide) rfl rfl (L0 := [some (.inr (.inl 0)), some (.inl a1)]) rfl (fun p e s m args below meth c A ad0 hX hr => ?_)
  rw [f_X4_type]
  refine ev_aload_n hX dX4_type_0 rfl ?_
  refine ev_getr (k := 3) hX (T := TX4) in_X4_type_X4 rfl rfl rfl (show Cond.fieldLink RX4 35 "FiveShogi" "text" "LFiveShogi$PlayText;" ∈ _ by decide +kernel) rfl dX4_type_1 ?_
  refine ev_callVi hX (k0 := 11) (As := []) (rm := rm_X1_isFull) (c_X1_isFull l D cI cC td w) (cwV 0 hX.ts gX4_type_X1_isFull rfl rfl rfl (by decide +kernel) ⟨Nat.le_of_ble_eq_true rfl, Nat.le_of_ble_eq_true rfl⟩) rfl rfl rfl rfl rfl rfl ⟨Nat.le_of_ble_eq_true rfl, Nat.le_of_ble_eq_true rfl⟩ dX4_type_4 rfl (fun z1 hz1 => ?_)
  refine ev_if_eq (tgt := 14) hX dX4_type_7 (by decide) ?_ ?_
  · refine ev_aload_n hX dX4_type_14 rfl ?_
    refine ev_getr (k := 3) hX (T := TX4) in_X4_type_X4 rfl rfl rfl (show Cond.fieldLink RX4 35 "FiveShogi" "text" "LFiveShogi$PlayText;" ∈ _ by decide +kernel) rfl dX4_type_15 ?_
    refine ev_iload_n hX dX4_type_18 rfl ?_
    refine ev_callVv hX (k0 := 11) (As := [.inl a1]) (rm := rm_X1_append) (c_X1_append l D cI cC td a1 z1.2) (cwV 1 hX.ts gX4_type_X1_append rfl rfl rfl (by decide +kernel) ⟨Nat.le_of_ble_eq_true rfl, Nat.le_of_ble_eq_true rfl⟩) rfl rfl rfl rfl rfl rfl ⟨Nat.le_of_ble_eq_true rfl, Nat.le_of_ble_eq_true rfl⟩ dX4_type_19 rfl (fun z2 hz2 => ?_)
    refine ev_aload_n hX dX4_type_22 rfl ?_
    refine ev_getr (k := 3) hX (T := TX4) in_X4_type_X4 rfl rfl rfl (show Cond.fieldLink RX4 35 "FiveShogi" "text" "LFiveShogi$PlayText;" ∈ _ by decide +kernel) rfl dX4_type_23 ?_
    refine ev_callVi hX (k0 := 11) (As := []) (rm := rm_X1_size) (c_X1_size l D cI cC td z2) (cwV 0 hX.ts gX4_type_X1_size rfl rfl rfl (by decide +kernel) ⟨Nat.le_of_ble_eq_true rfl, Nat.le_of_ble_eq_true rfl⟩) rfl rfl rfl rfl rfl rfl ⟨Nat.le_of_ble_eq_true rfl, Nat.le_of_ble_eq_true rfl⟩ dX4_type_26 rfl (fun z3 hz3 => ?_)
    exact ev_ireti hX hr dX4_type_29
  · refine ev_sipush hX dX4_type_10 (v := (-1003)) (by decide +kernel) ?_
    exact ev_ireti hX hr dX4_type_13
def rm_X5_type : Room := { frames := 0, cells := 0, slots := 0, locals := 0 }
set_option maxRecDepth 20000 in
theorem in_X5_type_X5 : ∀ w ∈ u_ws RX5 TX5 8, w ∈ wsX5_type := by decide +kernel
set_option maxHeartbeats 4000000 in
set_option maxRecDepth 100000 in
theorem c_X5_type (l : Launch) (D : va_G) (cI cC : ClassId) (td : Nat → Option Nat) (a1 : Int32) (w : mvW) : ∀ z, f_X5_type a1 w = some z → mv_Ci l D vwCl cI cC tbX td yX5_type wsX5_type rm_X5_type shM w [.inr (.inl 0), .inl a1] z := by
  refine mv_starti (own := RX5) rfl (by decide) rfl rfl (L0 := [some (.inr (.inl 0)), some (.inl a1)]) rfl (fun p e s m args below meth c A ad0 hX hr => ?_)
  rw [f_X5_type]
  refine ev_aload_n hX dX5_type_0 rfl ?_
  refine ev_get (k := 7) hX (T := TX5) in_X5_type_X5 rfl rfl rfl (show Cond.fieldLink RX5 132 "FiveShogiModel" "length" "I" ∈ _ by decide +kernel) rfl dX5_type_1 ?_
  refine ev_bipush hX dX5_type_4 (v := 60) (by decide +kernel) ?_
  refine ev_icmp_ne (tgt := 13) hX dX5_type_6 (by decide) ?_ ?_
  · refine ev_aload_n hX dX5_type_13 rfl ?_
    refine ev_getr (k := 6) hX (T := TX5) in_X5_type_X5 rfl rfl rfl (show Cond.fieldLink RX5 22 "FiveShogiModel" "text" "[I" ∈ _ by decide +kernel) rfl dX5_type_14 ?_
    refine ev_aload_n hX dX5_type_17 rfl ?_
    refine ev_get (k := 7) hX (T := TX5) in_X5_type_X5 rfl rfl rfl (show Cond.fieldLink RX5 132 "FiveShogiModel" "length" "I" ∈ _ by decide +kernel) rfl dX5_type_18 ?_
    refine ev_iload_n hX dX5_type_21 rfl ?_
    refine ev_iast hX rfl dX5_type_22 (fun j1 => ?_)
    refine ev_aload_n hX dX5_type_23 rfl ?_
    refine ev_dup hX dX5_type_24 ?_
    refine ev_get (k := 7) hX (T := TX5) in_X5_type_X5 rfl rfl rfl (show Cond.fieldLink RX5 132 "FiveShogiModel" "length" "I" ∈ _ by decide +kernel) rfl dX5_type_25 ?_
    refine ev_iconst hX dX5_type_28 (v := 1) (by decide +kernel) ?_
    refine ev_iadd hX dX5_type_29 ?_
    refine ev_put (k := 7) hX (T := TX5) (ty := .int) in_X5_type_X5 tyX5 tyX5_ok nmX5 rfl rfl rfl (show Cond.fieldLink RX5 132 "FiveShogiModel" "length" "I" ∈ _ by decide +kernel) rfl (by decide +kernel) rfl rfl rfl dX5_type_30 ?_
    refine ev_aload_n hX dX5_type_33 rfl ?_
    refine ev_get (k := 7) hX (T := TX5) in_X5_type_X5 rfl rfl rfl (show Cond.fieldLink RX5 132 "FiveShogiModel" "length" "I" ∈ _ by decide +kernel) rfl dX5_type_34 ?_
    exact ev_ireti hX hr dX5_type_37
  · refine ev_sipush hX dX5_type_9 (v := (-1003)) (by decide +kernel) ?_
    exact ev_ireti hX hr dX5_type_12
def rm_X1_empty : Room := { frames := 0, cells := 0, slots := 0, locals := 0 }
set_option maxRecDepth 20000 in
theorem in_X1_empty_X1 : ∀ w ∈ u_ws RX1 TX1 5, w ∈ wsX1_empty := by decide +kernel
set_option maxHeartbeats 4000000 in
set_option maxRecDepth 100000 in
theorem c_X1_empty (l : Launch) (D : va_G) (cI cC : ClassId) (td : Nat → Option Nat) (w : mvW) : ∀ z, f_X1_empty w = some z → mv_Cv l D vwCl cI cC tbX td yX1_empty wsX1_empty rm_X1_empty shX w [.inr (.inl 11)] z := by
  refine mv_startv (own := RX1) rfl (by decide) rfl rfl (L0 := [some (.inr (.inl 11))]) rfl (fun p e s m args below meth c A ad0 hX hr => ?_)
  rw [f_X1_empty]
  refine ev_aload_n hX dX1_empty_0 rfl ?_
  refine ev_iconst hX dX1_empty_1 (v := 0) (by decide +kernel) ?_
  refine ev_put (k := 1) hX (T := TX1) (ty := .int) in_X1_empty_X1 tyX1 tyX1_ok nmX1 rfl rfl rfl (show Cond.fieldLink RX1 15 "FiveShogi$PlayText" "size" "I" ∈ _ by decide +kernel) rfl (by decide +kernel) rfl rfl rfl dX1_empty_2 ?_
  exact ev_vret hX hr dX1_empty_5
def rm_X4_clearText : Room := { frames := 1, cells := 0, slots := 0, locals := 20 }
set_option maxRecDepth 20000 in
theorem in_X4_clearText_X4 : ∀ w ∈ u_ws RX4 TX4 7, w ∈ wsX4_clearText := by decide +kernel
set_option maxHeartbeats 4000000 in
set_option maxRecDepth 100000 in
theorem c_X4_clearText (l : Launch) (D : va_G) (cI cC : ClassId) (td : Nat → Option Nat) (w : mvW) : ∀ z, f_X4_clearText w = some z → mv_Ci l D vwCl cI cC tbX td yX4_clearText wsX4_clearText rm_X4_clearText shX w [.inr (.inl 0)] z := by
  refine mv_starti (own := RX4) rfl (by decide) rfl rfl (L0 := [some (.inr (.inl 0)), none]) rfl (fun p e s m args below meth c A ad0 hX hr => ?_)
  rw [f_X4_clearText]
  refine ev_aload_n hX dX4_clearText_0 rfl ?_
  refine ev_getr (k := 3) hX (T := TX4) in_X4_clearText_X4 rfl rfl rfl (show Cond.fieldLink RX4 35 "FiveShogi" "text" "LFiveShogi$PlayText;" ∈ _ by decide +kernel) rfl dX4_clearText_1 ?_
  refine ev_callVi hX (k0 := 11) (As := []) (rm := rm_X1_size) (c_X1_size l D cI cC td w) (cwV 0 hX.ts gX4_clearText_X1_size rfl rfl rfl (by decide +kernel) ⟨Nat.le_of_ble_eq_true rfl, Nat.le_of_ble_eq_true rfl⟩) rfl rfl rfl rfl rfl rfl ⟨Nat.le_of_ble_eq_true rfl, Nat.le_of_ble_eq_true rfl⟩ dX4_clearText_4 rfl (fun z1 hz1 => ?_)
  refine ev_istore_n hX dX4_clearText_7 rfl (L' := [some (.inr (.inl 0)), some (.inl z1.1)]) rfl ?_
  refine ev_aload_n hX dX4_clearText_8 rfl ?_
  refine ev_getr (k := 3) hX (T := TX4) in_X4_clearText_X4 rfl rfl rfl (show Cond.fieldLink RX4 35 "FiveShogi" "text" "LFiveShogi$PlayText;" ∈ _ by decide +kernel) rfl dX4_clearText_9 ?_
  refine ev_callVv hX (k0 := 11) (As := []) (rm := rm_X1_empty) (c_X1_empty l D cI cC td z1.2) (cwV 0 hX.ts gX4_clearText_X1_empty rfl rfl rfl (by decide +kernel) ⟨Nat.le_of_ble_eq_true rfl, Nat.le_of_ble_eq_true rfl⟩) rfl rfl rfl rfl rfl rfl ⟨Nat.le_of_ble_eq_true rfl, Nat.le_of_ble_eq_true rfl⟩ dX4_clearText_12 rfl (fun z2 hz2 => ?_)
  refine ev_iload_n hX dX4_clearText_15 rfl ?_
  exact ev_ireti hX hr dX4_clearText_16
def rm_X5_clearText : Room := { frames := 0, cells := 0, slots := 0, locals := 0 }
set_option maxRecDepth 20000 in
theorem in_X5_clearText_X5 : ∀ w ∈ u_ws RX5 TX5 8, w ∈ wsX5_clearText := by decide +kernel
set_option maxHeartbeats 4000000 in
set_option maxRecDepth 100000 in
theorem c_X5_clearText (l : Launch) (D : va_G) (cI cC : ClassId) (td : Nat → Option Nat) (w : mvW) : ∀ z, f_X5_clearText w = some z → mv_Ci l D vwCl cI cC tbX td yX5_clearText wsX5_clearText rm_X5_clearText shM w [.inr (.inl 0)] z := by
  refine mv_starti (own := RX5) rfl (by decide) rfl rfl (L0 := [some (.inr (.inl 0)), none]) rfl (fun p e s m args below meth c A ad0 hX hr => ?_)
  rw [f_X5_clearText]
  refine ev_aload_n hX dX5_clearText_0 rfl ?_
  refine ev_get (k := 7) hX (T := TX5) in_X5_clearText_X5 rfl rfl rfl (show Cond.fieldLink RX5 132 "FiveShogiModel" "length" "I" ∈ _ by decide +kernel) rfl dX5_clearText_1 ?_
  refine ev_istore_n hX dX5_clearText_4 rfl (L' := [some (.inr (.inl 0)), some (.inl (w 0 7))]) rfl ?_
  refine ev_aload_n hX dX5_clearText_5 rfl ?_
  refine ev_iconst hX dX5_clearText_6 (v := 0) (by decide +kernel) ?_
  refine ev_put (k := 7) hX (T := TX5) (ty := .int) in_X5_clearText_X5 tyX5 tyX5_ok nmX5 rfl rfl rfl (show Cond.fieldLink RX5 132 "FiveShogiModel" "length" "I" ∈ _ by decide +kernel) rfl (by decide +kernel) rfl rfl rfl dX5_clearText_7 ?_
  refine ev_iload_n hX dX5_clearText_10 rfl ?_
  exact ev_ireti hX hr dX5_clearText_11
def rm_J0_coder_7d493 : Room := { frames := 0, cells := 0, slots := 0, locals := 0 }
set_option maxHeartbeats 4000000 in
set_option maxRecDepth 100000 in
theorem c_J0_coder_7d493 (l : Launch) (D : va_G) (cI cC : ClassId) (td : Nat → Option Nat) (w : mvW) : ∀ z, f_J0_coder_7d493 w = some z → mv_Ci l D vwCl cI cC tbX td yJ0_coder_7d493 wsJ0_coder_7d493 rm_J0_coder_7d493 shX w [.inr (.inr 1000)] z := by
  refine mv_starti (own := RJ0) rfl (by decide) rfl rfl (L0 := [some (.inr (.inr 1000))]) rfl (fun p e s m args below meth c A ad0 hX hr => ?_)
  rw [f_J0_coder_7d493]
  refine ev_getsZ hX (show Cond.fieldLink RJ0 38 _ _ _ ∈ _ by decide +kernel) dJ0_coder_7d493_0 ?_
  refine ev_if_eq (tgt := 13) hX dJ0_coder_7d493_3 (by decide) ?_ ?_
  · refine ev_iconst hX dJ0_coder_7d493_13 (v := 1) (by decide +kernel) ?_
    exact ev_iretb hX hr dJ0_coder_7d493_14
  · refine ev_taload_n hX dJ0_coder_7d493_6 rfl (mv_htd1000 hX) ?_
    refine ev_getK (k0 := 0) hX rfl (by decide +kernel) dJ0_coder_7d493_7 ?_
    refine ev_goto (tgt := 14) hX dJ0_coder_7d493_10 (by decide) ?_
    exact ev_iretb hX hr dJ0_coder_7d493_14
def rm_J0_length_8abf5 : Room := { frames := 1, cells := 0, slots := 0, locals := 20 }
set_option maxHeartbeats 4000000 in
set_option maxRecDepth 100000 in
theorem c_J0_length_8abf5 (l : Launch) (D : va_G) (cI cC : ClassId) (td : Nat → Option Nat) (w : mvW) : ∀ z, f_J0_length_8abf5 w = some z → mv_Ci l D vwCl cI cC tbX td yJ0_length_8abf5 wsJ0_length_8abf5 rm_J0_length_8abf5 shX w [.inr (.inr 1000)] z := by
  refine mv_starti (own := RJ0) rfl (by decide) rfl rfl (L0 := [some (.inr (.inr 1000))]) rfl (fun p e s m args below meth c A ad0 hX hr => ?_)
  rw [f_J0_length_8abf5]
  refine ev_taload_n hX dJ0_length_8abf5_0 rfl (mv_htd1000 hX) ?_
  refine ev_getV (k0 := 0) hX rfl (by decide +kernel) dJ0_length_8abf5_1 ?_
  refine ev_tblen (k0 := 0) hX rfl (v := 5) (by decide +kernel) dJ0_length_8abf5_4 ?_
  refine ev_taload_n hX dJ0_length_8abf5_5 rfl (mv_htd1000 hX) ?_
  refine ev_callTi (k0 := 0) hX (As := []) (rm := rm_J0_coder_7d493) (c_J0_coder_7d493 l D cI cC td w) (cwV 0 hX.ts gJ0_length_8abf5_J0_coder_7d493 rfl rfl rfl (by decide +kernel) ⟨Nat.le_of_ble_eq_true rfl, Nat.le_of_ble_eq_true rfl⟩) rfl rfl rfl rfl ⟨Nat.le_of_ble_eq_true rfl, Nat.le_of_ble_eq_true rfl⟩ dJ0_length_8abf5_6 rfl (fun z1 hz1 => ?_)
  refine ev_ishr hX dJ0_length_8abf5_9 ?_
  exact ev_ireti hX hr dJ0_length_8abf5_10
def rm_J0_isLatin1_aae02 : Room := { frames := 0, cells := 0, slots := 0, locals := 0 }
set_option maxHeartbeats 4000000 in
set_option maxRecDepth 100000 in
theorem c_J0_isLatin1_aae02 (l : Launch) (D : va_G) (cI cC : ClassId) (td : Nat → Option Nat) (w : mvW) : ∀ z, f_J0_isLatin1_aae02 w = some z → mv_Ci l D vwCl cI cC tbX td yJ0_isLatin1_aae02 wsJ0_isLatin1_aae02 rm_J0_isLatin1_aae02 shX w [.inr (.inr 1000)] z := by
  refine mv_starti (own := RJ0) rfl (by decide) rfl rfl (L0 := [some (.inr (.inr 1000))]) rfl (fun p e s m args below meth c A ad0 hX hr => ?_)
  rw [f_J0_isLatin1_aae02]
  refine ev_getsZ hX (show Cond.fieldLink RJ0 38 _ _ _ ∈ _ by decide +kernel) dJ0_isLatin1_aae02_0 ?_
  refine ev_if_eq (tgt := 17) hX dJ0_isLatin1_aae02_3 (by decide) ?_ ?_
  · refine ev_iconst hX dJ0_isLatin1_aae02_17 (v := 0) (by decide +kernel) ?_
    exact ev_iretz0 hX hr dJ0_isLatin1_aae02_18
  · refine ev_taload_n hX dJ0_isLatin1_aae02_6 rfl (mv_htd1000 hX) ?_
    refine ev_getK (k0 := 0) hX rfl (by decide +kernel) dJ0_isLatin1_aae02_7 ?_
    refine ev_if_ne (tgt := 17) hX dJ0_isLatin1_aae02_10 (by decide) ?_ ?_
    · refine ev_iconst hX dJ0_isLatin1_aae02_17 (v := 0) (by decide +kernel) ?_
      exact ev_iretz0 hX hr dJ0_isLatin1_aae02_18
    · refine ev_iconst hX dJ0_isLatin1_aae02_13 (v := 1) (by decide +kernel) ?_
      refine ev_goto (tgt := 18) hX dJ0_isLatin1_aae02_14 (by decide) ?_
      exact ev_iretz1 hX hr dJ0_isLatin1_aae02_18
def rm_J2_length_9d52b : Room := { frames := 0, cells := 0, slots := 0, locals := 0 }
set_option maxHeartbeats 4000000 in
set_option maxRecDepth 100000 in
theorem c_J2_length_9d52b_1001 (l : Launch) (D : va_G) (cI cC : ClassId) (td : Nat → Option Nat) (w : mvW) : ∀ z, f_J2_length_9d52b_1001 w = some z → mv_Ci l D vwCl cI cC tbX td yJ2_length_9d52b wsJ2_length_9d52b rm_J2_length_9d52b shX w [.inr (.inr 1001)] z := by
  refine mv_starti (own := RJ2) rfl (by decide) rfl rfl (L0 := [some (.inr (.inr 1001))]) rfl (fun p e s m args below meth c A ad0 hX hr => ?_)
  rw [f_J2_length_9d52b_1001]
  refine ev_taload_n hX dJ2_length_9d52b_0 rfl (mv_htd1001 hX) ?_
  refine ev_tblen (k0 := 0) hX rfl (v := 5) (by decide +kernel) dJ2_length_9d52b_1 ?_
  refine ev_iconst hX dJ2_length_9d52b_2 (v := 1) (by decide +kernel) ?_
  refine ev_ishr hX dJ2_length_9d52b_3 ?_
  exact ev_ireti hX hr dJ2_length_9d52b_4
def rm_J3_checkIndex_8e157 : Room := { frames := 0, cells := 0, slots := 0, locals := 0 }
set_option maxHeartbeats 4000000 in
set_option maxRecDepth 100000 in
theorem c_J3_checkIndex_8e157_2000 (l : Launch) (D : va_G) (cI cC : ClassId) (td : Nat → Option Nat) (a0 : Int32) (a1 : Int32) (w : mvW) : ∀ z, f_J3_checkIndex_8e157_2000 a0 a1 w = some z → mv_Ci l D vwCl cI cC tbX td yJ3_checkIndex_8e157 wsJ3_checkIndex_8e157 rm_J3_checkIndex_8e157 shX w [.inl a0, .inl a1, .inr (.inr 2000)] z := by
  refine mv_starti (own := RJ3) rfl (by decide) rfl rfl (L0 := [some (.inl a0), some (.inl a1), some (.inr (.inr 2000))]) rfl (fun p e s m args below meth c A ad0 hX hr => ?_)
  rw [f_J3_checkIndex_8e157_2000]
  refine ev_iload_n hX dJ3_checkIndex_8e157_0 rfl ?_
  refine ev_if_lt (tgt := 9) hX dJ3_checkIndex_8e157_1 (by decide) ?_ ?_
  · exact ev_none
  · refine ev_iload_n hX dJ3_checkIndex_8e157_4 rfl ?_
    refine ev_iload_n hX dJ3_checkIndex_8e157_5 rfl ?_
    refine ev_icmp_lt (tgt := 16) hX dJ3_checkIndex_8e157_6 (by decide) ?_ ?_
    · refine ev_iload_n hX dJ3_checkIndex_8e157_16 rfl ?_
      exact ev_ireti hX hr dJ3_checkIndex_8e157_17
    · exact ev_none
def rm_J0_checkIndex_df160 : Room := { frames := 1, cells := 0, slots := 0, locals := 22 }
set_option maxHeartbeats 4000000 in
set_option maxRecDepth 100000 in
theorem c_J0_checkIndex_df160 (l : Launch) (D : va_G) (cI cC : ClassId) (td : Nat → Option Nat) (a0 : Int32) (a1 : Int32) (w : mvW) : ∀ z, f_J0_checkIndex_df160 a0 a1 w = some z → mv_Cv l D vwCl cI cC tbX td yJ0_checkIndex_df160 wsJ0_checkIndex_df160 rm_J0_checkIndex_df160 shX w [.inl a0, .inl a1] z := by
  refine mv_startv (own := RJ0) rfl (by decide) rfl rfl (L0 := [some (.inl a0), some (.inl a1)]) rfl (fun p e s m args below meth c A ad0 hX hr => ?_)
  rw [f_J0_checkIndex_df160]
  refine ev_iload_n hX dJ0_checkIndex_df160_0 rfl ?_
  refine ev_iload_n hX dJ0_checkIndex_df160_1 rfl ?_
  refine ev_getsF hX (show Cond.fieldLink RJ0 1053 _ _ _ ∈ _ by decide +kernel) dJ0_checkIndex_df160_2 ?_
  refine ev_callSi hX (As := [.inl a0, .inl a1, .inr (.inr 2000)]) (rm := rm_J3_checkIndex_8e157) (c_J3_checkIndex_8e157_2000 l D cI cC td a0 a1 w) (va_cwS 3 hX.ts gJ0_checkIndex_df160_J3_checkIndex_8e157 rfl rfl rfl (by decide +kernel) ⟨Nat.le_of_ble_eq_true rfl, Nat.le_of_ble_eq_true rfl⟩) rfl rfl rfl ⟨Nat.le_of_ble_eq_true rfl, Nat.le_of_ble_eq_true rfl⟩ dJ0_checkIndex_df160_5 rfl (fun z1 hz1 => ?_)
  refine ev_pop hX dJ0_checkIndex_df160_8 ?_
  exact ev_vret hX hr dJ0_checkIndex_df160_9
def rm_J2_checkIndex_2214a : Room := { frames := 2, cells := 0, slots := 0, locals := 43 }
set_option maxHeartbeats 4000000 in
set_option maxRecDepth 100000 in
theorem c_J2_checkIndex_2214a_1001 (l : Launch) (D : va_G) (cI cC : ClassId) (td : Nat → Option Nat) (a0 : Int32) (w : mvW) : ∀ z, f_J2_checkIndex_2214a_1001 a0 w = some z → mv_Cv l D vwCl cI cC tbX td yJ2_checkIndex_2214a wsJ2_checkIndex_2214a rm_J2_checkIndex_2214a shX w [.inl a0, .inr (.inr 1001)] z := by
  refine mv_startv (own := RJ2) rfl (by decide) rfl rfl (L0 := [some (.inl a0), some (.inr (.inr 1001))]) rfl (fun p e s m args below meth c A ad0 hX hr => ?_)
  rw [f_J2_checkIndex_2214a_1001]
  refine ev_iload_n hX dJ2_checkIndex_2214a_0 rfl ?_
  refine ev_taload_n hX dJ2_checkIndex_2214a_1 rfl (mv_htd1001 hX) ?_
  refine ev_callSi hX (As := [.inr (.inr 1001)]) (rm := rm_J2_length_9d52b) (c_J2_length_9d52b_1001 l D cI cC td w) (cwS 1 hX.ts gJ2_checkIndex_2214a_J2_length_9d52b rfl rfl rfl (by decide +kernel) ⟨Nat.le_of_ble_eq_true rfl, Nat.le_of_ble_eq_true rfl⟩) rfl rfl rfl ⟨Nat.le_of_ble_eq_true rfl, Nat.le_of_ble_eq_true rfl⟩ dJ2_checkIndex_2214a_2 rfl (fun z1 hz1 => ?_)
  refine ev_callSv hX (As := [.inl a0, .inl z1.1]) (rm := rm_J0_checkIndex_df160) (c_J0_checkIndex_df160 l D cI cC td a0 z1.1 z1.2) (va_cwS 2 hX.ts gJ2_checkIndex_2214a_J0_checkIndex_df160 rfl rfl rfl (by decide +kernel) ⟨Nat.le_of_ble_eq_true rfl, Nat.le_of_ble_eq_true rfl⟩) rfl rfl rfl ⟨Nat.le_of_ble_eq_true rfl, Nat.le_of_ble_eq_true rfl⟩ dJ2_checkIndex_2214a_5 rfl (fun z2 hz2 => ?_)
  exact ev_vret hX hr dJ2_checkIndex_2214a_8
def rm_J2_getChar_3b067 : Room := { frames := 0, cells := 0, slots := 0, locals := 0 }
set_option maxHeartbeats 4000000 in
set_option maxRecDepth 100000 in
theorem c_J2_getChar_3b067_1001 (l : Launch) (D : va_G) (cI cC : ClassId) (td : Nat → Option Nat) (a1 : Int32) (w : mvW) : ∀ z, f_J2_getChar_3b067_1001 a1 w = some z → mv_Ci l D vwCl cI cC tbX td yJ2_getChar_3b067 wsJ2_getChar_3b067 rm_J2_getChar_3b067 shX w [.inr (.inr 1001), .inl a1] z := by
  refine mv_starti (own := RJ2) rfl (by decide) rfl rfl (L0 := [some (.inr (.inr 1001)), some (.inl a1)]) rfl (fun p e s m args below meth c A ad0 hX hr => ?_)
  rw [f_J2_getChar_3b067_1001]
  exact ev_none
def rm_J2_charAt_3b067 : Room := { frames := 3, cells := 0, slots := 0, locals := 64 }
set_option maxHeartbeats 4000000 in
set_option maxRecDepth 100000 in
theorem c_J2_charAt_3b067_1001 (l : Launch) (D : va_G) (cI cC : ClassId) (td : Nat → Option Nat) (a1 : Int32) (w : mvW) : ∀ z, f_J2_charAt_3b067_1001 a1 w = some z → mv_Ci l D vwCl cI cC tbX td yJ2_charAt_3b067 wsJ2_charAt_3b067 rm_J2_charAt_3b067 shX w [.inr (.inr 1001), .inl a1] z := by
  refine mv_starti (own := RJ2) rfl (by decide) rfl rfl (L0 := [some (.inr (.inr 1001)), some (.inl a1)]) rfl (fun p e s m args below meth c A ad0 hX hr => ?_)
  rw [f_J2_charAt_3b067_1001]
  refine ev_iload_n hX dJ2_charAt_3b067_0 rfl ?_
  refine ev_taload_n hX dJ2_charAt_3b067_1 rfl (mv_htd1001 hX) ?_
  refine ev_callSv hX (As := [.inl a1, .inr (.inr 1001)]) (rm := rm_J2_checkIndex_2214a) (c_J2_checkIndex_2214a_1001 l D cI cC td a1 w) (cwS 2 hX.ts gJ2_charAt_3b067_J2_checkIndex_2214a rfl rfl rfl (by decide +kernel) ⟨Nat.le_of_ble_eq_true rfl, Nat.le_of_ble_eq_true rfl⟩) rfl rfl rfl ⟨Nat.le_of_ble_eq_true rfl, Nat.le_of_ble_eq_true rfl⟩ dJ2_charAt_3b067_2 rfl (fun z1 hz1 => ?_)
  refine ev_taload_n hX dJ2_charAt_3b067_5 rfl (mv_htd1001 hX) ?_
  refine ev_iload_n hX dJ2_charAt_3b067_6 rfl ?_
  refine ev_callSi hX (As := [.inr (.inr 1001), .inl a1]) (rm := rm_J2_getChar_3b067) (c_J2_getChar_3b067_1001 l D cI cC td a1 z1) (cwS 2 hX.ts gJ2_charAt_3b067_J2_getChar_3b067 rfl rfl rfl (by decide +kernel) ⟨Nat.le_of_ble_eq_true rfl, Nat.le_of_ble_eq_true rfl⟩) rfl rfl rfl ⟨Nat.le_of_ble_eq_true rfl, Nat.le_of_ble_eq_true rfl⟩ dJ2_charAt_3b067_7 rfl (fun z2 hz2 => ?_)
  exact ev_iretc hX hr dJ2_charAt_3b067_10
def rm_J1_charAt_3b067 : Room := { frames := 2, cells := 0, slots := 0, locals := 43 }
set_option maxHeartbeats 4000000 in
set_option maxRecDepth 100000 in
theorem c_J1_charAt_3b067_1001 (l : Launch) (D : va_G) (cI cC : ClassId) (td : Nat → Option Nat) (a1 : Int32) (w : mvW) : ∀ z, f_J1_charAt_3b067_1001 a1 w = some z → mv_Ci l D vwCl cI cC tbX td yJ1_charAt_3b067 wsJ1_charAt_3b067 rm_J1_charAt_3b067 shX w [.inr (.inr 1001), .inl a1] z := by
  refine mv_starti (own := RJ1) rfl (by decide) rfl rfl (L0 := [some (.inr (.inr 1001)), some (.inl a1)]) rfl (fun p e s m args below meth c A ad0 hX hr => ?_)
  rw [f_J1_charAt_3b067_1001]
  refine ev_iload_n hX dJ1_charAt_3b067_0 rfl ?_
  refine ev_taload_n hX dJ1_charAt_3b067_1 rfl (mv_htd1001 hX) ?_
  refine ev_tblen (k0 := 0) hX rfl (v := 5) (by decide +kernel) dJ1_charAt_3b067_2 ?_
  refine ev_callSv hX (As := [.inl a1, .inl 5]) (rm := rm_J0_checkIndex_df160) (c_J0_checkIndex_df160 l D cI cC td a1 5 w) (va_cwS 2 hX.ts gJ1_charAt_3b067_J0_checkIndex_df160 rfl rfl rfl (by decide +kernel) ⟨Nat.le_of_ble_eq_true rfl, Nat.le_of_ble_eq_true rfl⟩) rfl rfl rfl ⟨Nat.le_of_ble_eq_true rfl, Nat.le_of_ble_eq_true rfl⟩ dJ1_charAt_3b067_3 rfl (fun z1 hz1 => ?_)
  refine ev_taload_n hX dJ1_charAt_3b067_6 rfl (mv_htd1001 hX) ?_
  refine ev_iload_n hX dJ1_charAt_3b067_7 rfl ?_
  refine ev_tbald (k0 := 0) hX rfl dJ1_charAt_3b067_8 (fun j2 => ?_)
  refine ev_sipush hX dJ1_charAt_3b067_9 (v := 255) (by decide +kernel) ?_
  refine ev_iand hX dJ1_charAt_3b067_12 ?_
  refine ev_i2c hX dJ1_charAt_3b067_13 ?_
  exact ev_iretc hX hr dJ1_charAt_3b067_14
def rm_J0_charAt_5068e : Room := { frames := 4, cells := 0, slots := 0, locals := 85 }
set_option maxHeartbeats 4000000 in
set_option maxRecDepth 100000 in
theorem c_J0_charAt_5068e (l : Launch) (D : va_G) (cI cC : ClassId) (td : Nat → Option Nat) (a1 : Int32) (w : mvW) : ∀ z, f_J0_charAt_5068e a1 w = some z → mv_Ci l D vwCl cI cC tbX td yJ0_charAt_5068e wsJ0_charAt_5068e rm_J0_charAt_5068e shX w [.inr (.inr 1000), .inl a1] z := by
  refine mv_starti (own := RJ0) rfl (by decide) rfl rfl (L0 := [some (.inr (.inr 1000)), some (.inl a1)]) rfl (fun p e s m args below meth c A ad0 hX hr => ?_)
  rw [f_J0_charAt_5068e]
  refine ev_taload_n hX dJ0_charAt_5068e_0 rfl (mv_htd1000 hX) ?_
  refine ev_callTi (k0 := 0) hX (As := []) (rm := rm_J0_isLatin1_aae02) (c_J0_isLatin1_aae02 l D cI cC td w) (cwV 0 hX.ts gJ0_charAt_5068e_J0_isLatin1_aae02 rfl rfl rfl (by decide +kernel) ⟨Nat.le_of_ble_eq_true rfl, Nat.le_of_ble_eq_true rfl⟩) rfl rfl rfl rfl ⟨Nat.le_of_ble_eq_true rfl, Nat.le_of_ble_eq_true rfl⟩ dJ0_charAt_5068e_1 rfl (fun z1 hz1 => ?_)
  refine ev_if_eq (tgt := 16) hX dJ0_charAt_5068e_4 (by decide) ?_ ?_
  · refine ev_taload_n hX dJ0_charAt_5068e_16 rfl (mv_htd1000 hX) ?_
    refine ev_getV (k0 := 0) hX rfl (by decide +kernel) dJ0_charAt_5068e_17 ?_
    refine ev_iload_n hX dJ0_charAt_5068e_20 rfl ?_
    refine ev_callSi hX (As := [.inr (.inr 1001), .inl a1]) (rm := rm_J2_charAt_3b067) (c_J2_charAt_3b067_1001 l D cI cC td a1 z1.2) (va_cwS 2 hX.ts gJ0_charAt_5068e_J2_charAt_3b067 rfl rfl rfl (by decide +kernel) ⟨Nat.le_of_ble_eq_true rfl, Nat.le_of_ble_eq_true rfl⟩) rfl rfl rfl ⟨Nat.le_of_ble_eq_true rfl, Nat.le_of_ble_eq_true rfl⟩ dJ0_charAt_5068e_21 rfl (fun z2 hz2 => ?_)
    exact ev_iretc hX hr dJ0_charAt_5068e_24
  · refine ev_taload_n hX dJ0_charAt_5068e_7 rfl (mv_htd1000 hX) ?_
    refine ev_getV (k0 := 0) hX rfl (by decide +kernel) dJ0_charAt_5068e_8 ?_
    refine ev_iload_n hX dJ0_charAt_5068e_11 rfl ?_
    refine ev_callSi hX (As := [.inr (.inr 1001), .inl a1]) (rm := rm_J1_charAt_3b067) (c_J1_charAt_3b067_1001 l D cI cC td a1 z1.2) (va_cwS 2 hX.ts gJ0_charAt_5068e_J1_charAt_3b067 rfl rfl rfl (by decide +kernel) ⟨Nat.le_of_ble_eq_true rfl, Nat.le_of_ble_eq_true rfl⟩) rfl rfl rfl ⟨Nat.le_of_ble_eq_true rfl, Nat.le_of_ble_eq_true rfl⟩ dJ0_charAt_5068e_12 rfl (fun z3 hz3 => ?_)
    exact ev_iretc hX hr dJ0_charAt_5068e_15
def rm_X1_isNext : Room := { frames := 0, cells := 0, slots := 0, locals := 0 }
set_option maxRecDepth 20000 in
theorem in_X1_isNext_X1 : ∀ w ∈ u_ws RX1 TX1 5, w ∈ wsX1_isNext := by decide +kernel
set_option maxHeartbeats 4000000 in
set_option maxRecDepth 100000 in
theorem c_X1_isNext (l : Launch) (D : va_G) (cI cC : ClassId) (td : Nat → Option Nat) (a1 : Int32) (w : mvW) : ∀ z, f_X1_isNext a1 w = some z → mv_Ci l D vwCl cI cC tbX td yX1_isNext wsX1_isNext rm_X1_isNext shX w [.inr (.inl 11), .inl a1] z := by
  refine mv_starti (own := RX1) rfl (by decide) rfl rfl (L0 := [some (.inr (.inl 11)), some (.inl a1)]) rfl (fun p e s m args below meth c A ad0 hX hr => ?_)
  rw [f_X1_isNext]
  refine ev_aload_n hX dX1_isNext_0 rfl ?_
  refine ev_get (k := 4) hX (T := TX1) in_X1_isNext_X1 rfl rfl rfl (show Cond.fieldLink RX1 26 "FiveShogi$PlayText" "cursor" "I" ∈ _ by decide +kernel) rfl dX1_isNext_1 ?_
  refine ev_if_lt (tgt := 47) hX dX1_isNext_4 (by decide) ?_ ?_
  · refine ev_iconst hX dX1_isNext_47 (v := 0) (by decide +kernel) ?_
    exact ev_iretz0 hX hr dX1_isNext_48
  · refine ev_aload_n hX dX1_isNext_7 rfl ?_
    refine ev_get (k := 4) hX (T := TX1) in_X1_isNext_X1 rfl rfl rfl (show Cond.fieldLink RX1 26 "FiveShogi$PlayText" "cursor" "I" ∈ _ by decide +kernel) rfl dX1_isNext_8 ?_
    refine ev_aload_n hX dX1_isNext_11 rfl ?_
    refine ev_get (k := 1) hX (T := TX1) in_X1_isNext_X1 rfl rfl rfl (show Cond.fieldLink RX1 15 "FiveShogi$PlayText" "size" "I" ∈ _ by decide +kernel) rfl dX1_isNext_12 ?_
    refine ev_icmp_ge (tgt := 47) hX dX1_isNext_15 (by decide) ?_ ?_
    · refine ev_iconst hX dX1_isNext_47 (v := 0) (by decide +kernel) ?_
      exact ev_iretz0 hX hr dX1_isNext_48
    · refine ev_aload_n hX dX1_isNext_18 rfl ?_
      refine ev_get (k := 4) hX (T := TX1) in_X1_isNext_X1 rfl rfl rfl (show Cond.fieldLink RX1 26 "FiveShogi$PlayText" "cursor" "I" ∈ _ by decide +kernel) rfl dX1_isNext_19 ?_
      refine ev_aload_n hX dX1_isNext_22 rfl ?_
      refine ev_getr (k := 0) hX (T := TX1) in_X1_isNext_X1 rfl rfl rfl (show Cond.fieldLink RX1 11 "FiveShogi$PlayText" "signs" "[C" ∈ _ by decide +kernel) rfl dX1_isNext_23 ?_
      refine ev_alen hX rfl (v := 60) (by decide +kernel) dX1_isNext_26 ?_
      refine ev_icmp_ge (tgt := 47) hX dX1_isNext_27 (by decide) ?_ ?_
      · refine ev_iconst hX dX1_isNext_47 (v := 0) (by decide +kernel) ?_
        exact ev_iretz0 hX hr dX1_isNext_48
      · refine ev_aload_n hX dX1_isNext_30 rfl ?_
        refine ev_getr (k := 0) hX (T := TX1) in_X1_isNext_X1 rfl rfl rfl (show Cond.fieldLink RX1 11 "FiveShogi$PlayText" "signs" "[C" ∈ _ by decide +kernel) rfl dX1_isNext_31 ?_
        refine ev_aload_n hX dX1_isNext_34 rfl ?_
        refine ev_get (k := 4) hX (T := TX1) in_X1_isNext_X1 rfl rfl rfl (show Cond.fieldLink RX1 26 "FiveShogi$PlayText" "cursor" "I" ∈ _ by decide +kernel) rfl dX1_isNext_35 ?_
        refine ev_cald hX rfl dX1_isNext_38 (fun j1 => ?_)
        refine ev_iload_n hX dX1_isNext_39 rfl ?_
        refine ev_icmp_ne (tgt := 47) hX dX1_isNext_40 (by decide) ?_ ?_
        · refine ev_iconst hX dX1_isNext_47 (v := 0) (by decide +kernel) ?_
          exact ev_iretz0 hX hr dX1_isNext_48
        · refine ev_iconst hX dX1_isNext_43 (v := 1) (by decide +kernel) ?_
          refine ev_goto (tgt := 48) hX dX1_isNext_44 (by decide) ?_
          exact ev_iretz1 hX hr dX1_isNext_48
def rm_X1_kindOfLetter : Room := { frames := 5, cells := 0, slots := 0, locals := 106 }
set_option maxHeartbeats 4000000 in
set_option maxRecDepth 100000 in
theorem e_X1_kindOfLetter_2 (hX : mv_X p s m args meth c D vwCl cI cC tbX td A cX1_kindOfLetter 2 RX1 wsX1_kindOfLetter) (hr : meth.sig.returnType = (some .int)) : ∀ (n : Nat) (x1 : Int32) (w : mvW), EV p l e (headSpec wsX1_kindOfLetter rm_X1_kindOfLetter).room s m args below meth c D vwCl cI cC td A (fun a => a = ad0) (mv_Qi below args s D vwCl cI cC shX ad0 A) 0 0 shX [some (.inr (.inl 11)), some (.inl x1)] [] 2 w (f_X1_kindOfLetter_2 n x1 w) := by
  intro n
  induction n with
  | zero => intro x1 w; exact ev_none
  | succ n ih =>
    intro x1 w
    rw [f_X1_kindOfLetter_2]
    refine ev_iload_n hX dX1_kindOfLetter_2 rfl ?_
    refine ev_ldcS (k0 := 0) hX rfl rfl rfl dX1_kindOfLetter_3 ?_
    refine ev_callTi (k0 := 0) hX (As := []) (rm := rm_J0_length_8abf5) (c_J0_length_8abf5 l D cI cC td w) (cwV 0 hX.ts gX1_kindOfLetter_J0_length_8abf5 rfl rfl rfl (by decide +kernel) ⟨Nat.le_of_ble_eq_true rfl, Nat.le_of_ble_eq_true rfl⟩) rfl rfl rfl rfl ⟨Nat.le_of_ble_eq_true rfl, Nat.le_of_ble_eq_true rfl⟩ dX1_kindOfLetter_5 rfl (fun z1 hz1 => ?_)
    refine ev_icmp_ge (tgt := 34) hX dX1_kindOfLetter_8 (by decide) ?_ ?_
    · refine ev_iconst hX dX1_kindOfLetter_34 (v := (-1)) (by decide +kernel) ?_
      exact ev_ireti hX hr dX1_kindOfLetter_35
    · refine ev_aload_n hX dX1_kindOfLetter_11 rfl ?_
      refine ev_ldcS (k0 := 0) hX rfl rfl rfl dX1_kindOfLetter_12 ?_
      refine ev_iload_n hX dX1_kindOfLetter_14 rfl ?_
      refine ev_callTi (k0 := 0) hX (As := [.inl x1]) (rm := rm_J0_charAt_5068e) (c_J0_charAt_5068e l D cI cC td x1 z1.2) (cwV 1 hX.ts gX1_kindOfLetter_J0_charAt_5068e rfl rfl rfl (by decide +kernel) ⟨Nat.le_of_ble_eq_true rfl, Nat.le_of_ble_eq_true rfl⟩) rfl rfl rfl rfl ⟨Nat.le_of_ble_eq_true rfl, Nat.le_of_ble_eq_true rfl⟩ dX1_kindOfLetter_15 rfl (fun z2 hz2 => ?_)
      refine ev_callVi hX (k0 := 11) (As := [.inl z2.1]) (rm := rm_X1_isNext) (c_X1_isNext l D cI cC td z2.1 z2.2) (cwV 1 hX.ts gX1_kindOfLetter_X1_isNext rfl rfl rfl (by decide +kernel) ⟨Nat.le_of_ble_eq_true rfl, Nat.le_of_ble_eq_true rfl⟩) rfl rfl rfl rfl rfl rfl ⟨Nat.le_of_ble_eq_true rfl, Nat.le_of_ble_eq_true rfl⟩ dX1_kindOfLetter_18 rfl (fun z3 hz3 => ?_)
      refine ev_if_eq (tgt := 28) hX dX1_kindOfLetter_21 (by decide) ?_ ?_
      · refine ev_iinc hX dX1_kindOfLetter_28 rfl (v := 1) (by decide +kernel) (L' := [some (.inr (.inl 11)), some (.inl (x1 + 1))]) rfl ?_
        refine ev_goto (tgt := 2) hX dX1_kindOfLetter_31 (by decide) ?_
        refine ev_mask [true, true] (L' := [some (.inr (.inl 11)), some (.inl (x1 + 1))]) rfl rfl ?_
        exact ih (x1 + 1) z3.2
      · refine ev_iconst hX dX1_kindOfLetter_24 (v := 1) (by decide +kernel) ?_
        refine ev_iload_n hX dX1_kindOfLetter_25 rfl ?_
        refine ev_iadd hX dX1_kindOfLetter_26 ?_
        exact ev_ireti hX hr dX1_kindOfLetter_27
set_option maxHeartbeats 4000000 in
set_option maxRecDepth 100000 in
theorem c_X1_kindOfLetter (l : Launch) (D : va_G) (cI cC : ClassId) (td : Nat → Option Nat) (w : mvW) : ∀ z, f_X1_kindOfLetter w = some z → mv_Ci l D vwCl cI cC tbX td yX1_kindOfLetter wsX1_kindOfLetter rm_X1_kindOfLetter shX w [.inr (.inl 11)] z := by
  refine mv_starti (own := RX1) rfl (by decide) rfl rfl (L0 := [some (.inr (.inl 11)), none]) rfl (fun p e s m args below meth c A ad0 hX hr => ?_)
  rw [f_X1_kindOfLetter]
  refine ev_iconst hX dX1_kindOfLetter_0 (v := 0) (by decide +kernel) ?_
  refine ev_istore_n hX dX1_kindOfLetter_1 rfl (L' := [some (.inr (.inl 11)), some (.inl 0)]) rfl ?_
  refine ev_mask [true, true] (L' := [some (.inr (.inl 11)), some (.inl 0)]) rfl rfl ?_
  exact e_X1_kindOfLetter_2 hX hr 4096 0 w
def rm_X1_passes : Room := { frames := 1, cells := 0, slots := 0, locals := 21 }
set_option maxRecDepth 20000 in
theorem in_X1_passes_X1 : ∀ w ∈ u_ws RX1 TX1 5, w ∈ wsX1_passes := by decide +kernel
set_option maxHeartbeats 4000000 in
set_option maxRecDepth 100000 in
theorem c_X1_passes (l : Launch) (D : va_G) (cI cC : ClassId) (td : Nat → Option Nat) (a1 : Int32) (w : mvW) : ∀ z, f_X1_passes a1 w = some z → mv_Ci l D vwCl cI cC tbX td yX1_passes wsX1_passes rm_X1_passes shX w [.inr (.inl 11), .inl a1] z := by
  refine mv_starti (own := RX1) rfl (by decide) rfl rfl (L0 := [some (.inr (.inl 11)), some (.inl a1)]) rfl (fun p e s m args below meth c A ad0 hX hr => ?_)
  rw [f_X1_passes]
  refine ev_aload_n hX dX1_passes_0 rfl ?_
  refine ev_iload_n hX dX1_passes_1 rfl ?_
  refine ev_callVi hX (k0 := 11) (As := [.inl a1]) (rm := rm_X1_isNext) (c_X1_isNext l D cI cC td a1 w) (cwV 1 hX.ts gX1_passes_X1_isNext rfl rfl rfl (by decide +kernel) ⟨Nat.le_of_ble_eq_true rfl, Nat.le_of_ble_eq_true rfl⟩) rfl rfl rfl rfl rfl rfl ⟨Nat.le_of_ble_eq_true rfl, Nat.le_of_ble_eq_true rfl⟩ dX1_passes_2 rfl (fun z1 hz1 => ?_)
  refine ev_if_ne (tgt := 10) hX dX1_passes_5 (by decide) ?_ ?_
  · refine ev_aload_n hX dX1_passes_10 rfl ?_
    refine ev_dup hX dX1_passes_11 ?_
    refine ev_get (k := 4) hX (T := TX1) in_X1_passes_X1 rfl rfl rfl (show Cond.fieldLink RX1 26 "FiveShogi$PlayText" "cursor" "I" ∈ _ by decide +kernel) rfl dX1_passes_12 ?_
    refine ev_iconst hX dX1_passes_15 (v := 1) (by decide +kernel) ?_
    refine ev_iadd hX dX1_passes_16 ?_
    refine ev_put (k := 4) hX (T := TX1) (ty := .int) in_X1_passes_X1 tyX1 tyX1_ok nmX1 rfl rfl rfl (show Cond.fieldLink RX1 26 "FiveShogi$PlayText" "cursor" "I" ∈ _ by decide +kernel) rfl (by decide +kernel) rfl rfl rfl dX1_passes_17 ?_
    refine ev_iconst hX dX1_passes_20 (v := 1) (by decide +kernel) ?_
    exact ev_iretz1 hX hr dX1_passes_21
  · refine ev_iconst hX dX1_passes_8 (v := 0) (by decide +kernel) ?_
    exact ev_iretz0 hX hr dX1_passes_9
def rm_X1_readDigit : Room := { frames := 2, cells := 0, slots := 0, locals := 42 }
set_option maxHeartbeats 4000000 in
set_option maxRecDepth 100000 in
theorem e_X1_readDigit_2 (hX : mv_X p s m args meth c D vwCl cI cC tbX td A cX1_readDigit 2 RX1 wsX1_readDigit) (hr : meth.sig.returnType = (some .int)) : ∀ (n : Nat) (x1 : Int32) (w : mvW), EV p l e (headSpec wsX1_readDigit rm_X1_readDigit).room s m args below meth c D vwCl cI cC td A (fun a => a = ad0) (mv_Qi below args s D vwCl cI cC shX ad0 A) 0 0 shX [some (.inr (.inl 11)), some (.inl x1)] [] 2 w (f_X1_readDigit_2 n x1 w) := by
  intro n
  induction n with
  | zero => intro x1 w; exact ev_none
  | succ n ih =>
    intro x1 w
    rw [f_X1_readDigit_2]
    refine ev_iload_n hX dX1_readDigit_2 rfl ?_
    refine ev_iconst hX dX1_readDigit_3 (v := 5) (by decide +kernel) ?_
    refine ev_icmp_ge (tgt := 27) hX dX1_readDigit_4 (by decide) ?_ ?_
    · refine ev_iconst hX dX1_readDigit_27 (v := (-1)) (by decide +kernel) ?_
      exact ev_ireti hX hr dX1_readDigit_28
    · refine ev_aload_n hX dX1_readDigit_7 rfl ?_
      refine ev_bipush hX dX1_readDigit_8 (v := 48) (by decide +kernel) ?_
      refine ev_iload_n hX dX1_readDigit_10 rfl ?_
      refine ev_iadd hX dX1_readDigit_11 ?_
      refine ev_i2c hX dX1_readDigit_12 ?_
      refine ev_callVi hX (k0 := 11) (As := [.inl ((Int32.toUInt32 (48 + x1) % 65536).toInt32)]) (rm := rm_X1_passes) (c_X1_passes l D cI cC td ((Int32.toUInt32 (48 + x1) % 65536).toInt32) w) (cwV 1 hX.ts gX1_readDigit_X1_passes rfl rfl rfl (by decide +kernel) ⟨Nat.le_of_ble_eq_true rfl, Nat.le_of_ble_eq_true rfl⟩) rfl rfl rfl rfl rfl rfl ⟨Nat.le_of_ble_eq_true rfl, Nat.le_of_ble_eq_true rfl⟩ dX1_readDigit_13 rfl (fun z1 hz1 => ?_)
      refine ev_if_eq (tgt := 21) hX dX1_readDigit_16 (by decide) ?_ ?_
      · refine ev_iinc hX dX1_readDigit_21 rfl (v := 1) (by decide +kernel) (L' := [some (.inr (.inl 11)), some (.inl (x1 + 1))]) rfl ?_
        refine ev_goto (tgt := 2) hX dX1_readDigit_24 (by decide) ?_
        refine ev_mask [true, true] (L' := [some (.inr (.inl 11)), some (.inl (x1 + 1))]) rfl rfl ?_
        exact ih (x1 + 1) z1.2
      · refine ev_iload_n hX dX1_readDigit_19 rfl ?_
        exact ev_ireti hX hr dX1_readDigit_20
set_option maxHeartbeats 4000000 in
set_option maxRecDepth 100000 in
theorem c_X1_readDigit (l : Launch) (D : va_G) (cI cC : ClassId) (td : Nat → Option Nat) (w : mvW) : ∀ z, f_X1_readDigit w = some z → mv_Ci l D vwCl cI cC tbX td yX1_readDigit wsX1_readDigit rm_X1_readDigit shX w [.inr (.inl 11)] z := by
  refine mv_starti (own := RX1) rfl (by decide) rfl rfl (L0 := [some (.inr (.inl 11)), none]) rfl (fun p e s m args below meth c A ad0 hX hr => ?_)
  rw [f_X1_readDigit]
  refine ev_iconst hX dX1_readDigit_0 (v := 0) (by decide +kernel) ?_
  refine ev_istore_n hX dX1_readDigit_1 rfl (L' := [some (.inr (.inl 11)), some (.inl 0)]) rfl ?_
  refine ev_mask [true, true] (L' := [some (.inr (.inl 11)), some (.inl 0)]) rfl rfl ?_
  exact e_X1_readDigit_2 hX hr 4096 0 w
def rm_X1_readSquare : Room := { frames := 3, cells := 0, slots := 0, locals := 63 }
set_option maxHeartbeats 4000000 in
set_option maxRecDepth 100000 in
theorem e_X1_readSquare_18 (hX : mv_X p s m args meth c D vwCl cI cC tbX td A cX1_readSquare 3 RX1 wsX1_readSquare) (hr : meth.sig.returnType = (some .int)) (x1 : Int32) (s0 : Int32) (w : mvW) : EV p l e (headSpec wsX1_readSquare rm_X1_readSquare).room s m args below meth c D vwCl cI cC td A (fun a => a = ad0) (mv_Qi below args s D vwCl cI cC shX ad0 A) 0 0 shX [none, some (.inl x1), none] [.inl s0] 18 w (f_X1_readSquare_18 x1 s0 w) := by
  rw [f_X1_readSquare_18]
  refine ev_istore_n hX dX1_readSquare_18 rfl (L' := [none, some (.inl x1), some (.inl s0)]) rfl ?_
  refine ev_iload_n hX dX1_readSquare_19 rfl ?_
  refine ev_iconst hX dX1_readSquare_20 (v := (-1)) (by decide +kernel) ?_
  refine ev_icmp_ne (tgt := 28) hX dX1_readSquare_21 (by decide) ?_ ?_
  · refine ev_iload_n hX dX1_readSquare_28 rfl ?_
    refine ev_iconst hX dX1_readSquare_29 (v := 5) (by decide +kernel) ?_
    refine ev_imul hX dX1_readSquare_30 ?_
    refine ev_iload_n hX dX1_readSquare_31 rfl ?_
    refine ev_iadd hX dX1_readSquare_32 ?_
    exact ev_ireti hX hr dX1_readSquare_33
  · refine ev_iconst hX dX1_readSquare_24 (v := (-1)) (by decide +kernel) ?_
    refine ev_goto (tgt := 33) hX dX1_readSquare_25 (by decide) ?_
    exact ev_ireti hX hr dX1_readSquare_33
set_option maxHeartbeats 4000000 in
set_option maxRecDepth 100000 in
theorem c_X1_readSquare (l : Launch) (D : va_G) (cI cC : ClassId) (td : Nat → Option Nat) (w : mvW) : ∀ z, f_X1_readSquare w = some z → mv_Ci l D vwCl cI cC tbX td yX1_readSquare wsX1_readSquare rm_X1_readSquare shX w [.inr (.inl 11)] z := by
  refine mv_starti (own := RX1) rfl (by decide) rfl rfl (L0 := [some (.inr (.inl 11)), none, none]) rfl (fun p e s m args below meth c A ad0 hX hr => ?_)
  rw [f_X1_readSquare]
  refine ev_aload_n hX dX1_readSquare_0 rfl ?_
  refine ev_callVi hX (k0 := 11) (As := []) (rm := rm_X1_readDigit) (c_X1_readDigit l D cI cC td w) (cwV 0 hX.ts gX1_readSquare_X1_readDigit rfl rfl rfl (by decide +kernel) ⟨Nat.le_of_ble_eq_true rfl, Nat.le_of_ble_eq_true rfl⟩) rfl rfl rfl rfl rfl rfl ⟨Nat.le_of_ble_eq_true rfl, Nat.le_of_ble_eq_true rfl⟩ dX1_readSquare_1 rfl (fun z1 hz1 => ?_)
  refine ev_istore_n hX dX1_readSquare_4 rfl (L' := [some (.inr (.inl 11)), some (.inl z1.1), none]) rfl ?_
  refine ev_iload_n hX dX1_readSquare_5 rfl ?_
  refine ev_iconst hX dX1_readSquare_6 (v := (-1)) (by decide +kernel) ?_
  refine ev_icmp_ne (tgt := 14) hX dX1_readSquare_7 (by decide) ?_ ?_
  · refine ev_aload_n hX dX1_readSquare_14 rfl ?_
    refine ev_callVi hX (k0 := 11) (As := []) (rm := rm_X1_readDigit) (c_X1_readDigit l D cI cC td z1.2) (cwV 0 hX.ts gX1_readSquare_X1_readDigit rfl rfl rfl (by decide +kernel) ⟨Nat.le_of_ble_eq_true rfl, Nat.le_of_ble_eq_true rfl⟩) rfl rfl rfl rfl rfl rfl ⟨Nat.le_of_ble_eq_true rfl, Nat.le_of_ble_eq_true rfl⟩ dX1_readSquare_15 rfl (fun z2 hz2 => ?_)
    refine ev_mask [false, true, false] (L' := [none, some (.inl z1.1), none]) rfl rfl ?_
    exact e_X1_readSquare_18 hX hr z1.1 z2.1 z2.2
  · refine ev_iconst hX dX1_readSquare_10 (v := (-1)) (by decide +kernel) ?_
    refine ev_goto (tgt := 18) hX dX1_readSquare_11 (by decide) ?_
    refine ev_mask [false, true, false] (L' := [none, some (.inl z1.1), none]) rfl rfl ?_
    exact e_X1_readSquare_18 hX hr z1.1 (-1) z1.2
def rm_X1_readPlay : Room := { frames := 6, cells := 0, slots := 0, locals := 127 }
set_option maxRecDepth 20000 in
theorem in_X1_readPlay_X1 : ∀ w ∈ u_ws RX1 TX1 5, w ∈ wsX1_readPlay := by decide +kernel
set_option maxHeartbeats 4000000 in
set_option maxRecDepth 100000 in
theorem e_X1_readPlay_37 (hX : mv_X p s m args meth c D vwCl cI cC tbX td A cX1_readPlay 4 RX1 wsX1_readPlay) (hr : meth.sig.returnType = (some .int)) (x1 : Int32) (s0 : Int32) (w : mvW) : EV p l e (headSpec wsX1_readPlay rm_X1_readPlay).room s m args below meth c D vwCl cI cC td A (fun a => a = ad0) (mv_Qi below args s D vwCl cI cC shX ad0 A) 0 0 shX [none, some (.inl x1), none, none] [.inl s0] 37 w (f_X1_readPlay_37 x1 s0 w) := by
  rw [f_X1_readPlay_37]
  refine ev_istore_n hX dX1_readPlay_37 rfl (L' := [none, some (.inl x1), some (.inl s0), none]) rfl ?_
  refine ev_iload_n hX dX1_readPlay_38 rfl ?_
  refine ev_iconst hX dX1_readPlay_39 (v := (-1)) (by decide +kernel) ?_
  refine ev_icmp_ne (tgt := 47) hX dX1_readPlay_40 (by decide) ?_ ?_
  · refine ev_iload_n hX dX1_readPlay_47 rfl ?_
    refine ev_iload_n hX dX1_readPlay_48 rfl ?_
    refine ev_callNi hX (As := [.inl x1, .inl s0]) (rm := rm_X4_dropNumber) (c_X4_dropNumber l D cI cC td x1 s0 w) ⟨va_cnB (host := "FiveShogi") 2 hX.ts gX1_readPlay_X4_dropNumber_n43 rfl rfl rfl (hX.sta.2.1 (_, 43, _, _) (List.mem_of_getElem? (i := 19) rfl)) (hX.ts _ (show Cond.initialized RX4 ∈ _ by decide +kernel)) (by decide +kernel) ⟨Nat.le_of_ble_eq_true rfl, Nat.le_of_ble_eq_true rfl⟩, hX.ts _ (show Cond.static yX4_dropNumber ∈ _ by decide +kernel), trivial⟩ rfl rfl rfl ⟨Nat.le_of_ble_eq_true rfl, Nat.le_of_ble_eq_true rfl⟩ dX1_readPlay_49 rfl (fun z9 hz9 => ?_)
    exact ev_ireti hX hr dX1_readPlay_52
  · refine ev_iconst hX dX1_readPlay_43 (v := (-1)) (by decide +kernel) ?_
    refine ev_goto (tgt := 52) hX dX1_readPlay_44 (by decide) ?_
    exact ev_ireti hX hr dX1_readPlay_52
set_option maxHeartbeats 4000000 in
set_option maxRecDepth 100000 in
theorem c_X1_readPlay (l : Launch) (D : va_G) (cI cC : ClassId) (td : Nat → Option Nat) (w : mvW) : ∀ z, f_X1_readPlay w = some z → mv_Ci l D vwCl cI cC tbX td yX1_readPlay wsX1_readPlay rm_X1_readPlay shX w [.inr (.inl 11)] z := by
  refine mv_starti (own := RX1) rfl (by decide) rfl rfl (L0 := [some (.inr (.inl 11)), none, none, none]) rfl (fun p e s m args below meth c A ad0 hX hr => ?_)
  rw [f_X1_readPlay]
  refine ev_aload_n hX dX1_readPlay_0 rfl ?_
  refine ev_callVi hX (k0 := 11) (As := []) (rm := rm_X1_kindOfLetter) (c_X1_kindOfLetter l D cI cC td w) (cwV 0 hX.ts gX1_readPlay_X1_kindOfLetter rfl rfl rfl (by decide +kernel) ⟨Nat.le_of_ble_eq_true rfl, Nat.le_of_ble_eq_true rfl⟩) rfl rfl rfl rfl rfl rfl ⟨Nat.le_of_ble_eq_true rfl, Nat.le_of_ble_eq_true rfl⟩ dX1_readPlay_1 rfl (fun z1 hz1 => ?_)
  refine ev_istore_n hX dX1_readPlay_4 rfl (L' := [some (.inr (.inl 11)), some (.inl z1.1), none, none]) rfl ?_
  refine ev_iload_n hX dX1_readPlay_5 rfl ?_
  refine ev_iconst hX dX1_readPlay_6 (v := (-1)) (by decide +kernel) ?_
  refine ev_icmp_eq (tgt := 53) hX dX1_readPlay_7 (by decide) ?_ ?_
  · refine ev_aload_n hX dX1_readPlay_53 rfl ?_
    refine ev_callVi hX (k0 := 11) (As := []) (rm := rm_X1_readSquare) (c_X1_readSquare l D cI cC td z1.2) (cwV 0 hX.ts gX1_readPlay_X1_readSquare rfl rfl rfl (by decide +kernel) ⟨Nat.le_of_ble_eq_true rfl, Nat.le_of_ble_eq_true rfl⟩) rfl rfl rfl rfl rfl rfl ⟨Nat.le_of_ble_eq_true rfl, Nat.le_of_ble_eq_true rfl⟩ dX1_readPlay_54 rfl (fun z2 hz2 => ?_)
    refine ev_istore_n hX dX1_readPlay_57 rfl (L' := [some (.inr (.inl 11)), some (.inl z1.1), some (.inl z2.1), none]) rfl ?_
    refine ev_iload_n hX dX1_readPlay_58 rfl ?_
    refine ev_iconst hX dX1_readPlay_59 (v := (-1)) (by decide +kernel) ?_
    refine ev_icmp_eq (tgt := 72) hX dX1_readPlay_60 (by decide) ?_ ?_
    · refine ev_iconst hX dX1_readPlay_72 (v := (-1)) (by decide +kernel) ?_
      exact ev_ireti hX hr dX1_readPlay_73
    · refine ev_aload_n hX dX1_readPlay_63 rfl ?_
      refine ev_bipush hX dX1_readPlay_64 (v := 45) (by decide +kernel) ?_
      refine ev_callVi hX (k0 := 11) (As := [.inl 45]) (rm := rm_X1_passes) (c_X1_passes l D cI cC td 45 z2.2) (cwV 1 hX.ts gX1_readPlay_X1_passes rfl rfl rfl (by decide +kernel) ⟨Nat.le_of_ble_eq_true rfl, Nat.le_of_ble_eq_true rfl⟩) rfl rfl rfl rfl rfl rfl ⟨Nat.le_of_ble_eq_true rfl, Nat.le_of_ble_eq_true rfl⟩ dX1_readPlay_66 rfl (fun z3 hz3 => ?_)
      refine ev_if_ne (tgt := 74) hX dX1_readPlay_69 (by decide) ?_ ?_
      · refine ev_aload_n hX dX1_readPlay_74 rfl ?_
        refine ev_callVi hX (k0 := 11) (As := []) (rm := rm_X1_readSquare) (c_X1_readSquare l D cI cC td z3.2) (cwV 0 hX.ts gX1_readPlay_X1_readSquare rfl rfl rfl (by decide +kernel) ⟨Nat.le_of_ble_eq_true rfl, Nat.le_of_ble_eq_true rfl⟩) rfl rfl rfl rfl rfl rfl ⟨Nat.le_of_ble_eq_true rfl, Nat.le_of_ble_eq_true rfl⟩ dX1_readPlay_75 rfl (fun z4 hz4 => ?_)
        refine ev_istore_n hX dX1_readPlay_78 rfl (L' := [some (.inr (.inl 11)), some (.inl z1.1), some (.inl z2.1), some (.inl z4.1)]) rfl ?_
        refine ev_iload_n hX dX1_readPlay_79 rfl ?_
        refine ev_iconst hX dX1_readPlay_80 (v := (-1)) (by decide +kernel) ?_
        refine ev_icmp_ne (tgt := 88) hX dX1_readPlay_81 (by decide) ?_ ?_
        · refine ev_iload_n hX dX1_readPlay_88 rfl ?_
          refine ev_iload_n hX dX1_readPlay_89 rfl ?_
          refine ev_aload_n hX dX1_readPlay_90 rfl ?_
          refine ev_bipush hX dX1_readPlay_91 (v := 43) (by decide +kernel) ?_
          refine ev_callVi hX (k0 := 11) (As := [.inl 43]) (rm := rm_X1_passes) (c_X1_passes l D cI cC td 43 z4.2) (cwV 1 hX.ts gX1_readPlay_X1_passes rfl rfl rfl (by decide +kernel) ⟨Nat.le_of_ble_eq_true rfl, Nat.le_of_ble_eq_true rfl⟩) rfl rfl rfl rfl rfl rfl ⟨Nat.le_of_ble_eq_true rfl, Nat.le_of_ble_eq_true rfl⟩ dX1_readPlay_93 rfl (fun z5 hz5 => ?_)
          refine ev_callNi hX (As := [.inl z2.1, .inl z4.1, .inl z5.1]) (rm := rm_X4_moveNumber) (c_X4_moveNumber l D cI cC td z2.1 z4.1 z5.1 z5.2) ⟨va_cnB (host := "FiveShogi") 3 hX.ts gX1_readPlay_X4_moveNumber_n47 rfl rfl rfl (hX.sta.2.1 (_, 47, _, _) (List.mem_of_getElem? (i := 20) rfl)) (hX.ts _ (show Cond.initialized RX4 ∈ _ by decide +kernel)) (by decide +kernel) ⟨Nat.le_of_ble_eq_true rfl, Nat.le_of_ble_eq_true rfl⟩, hX.ts _ (show Cond.static yX4_moveNumber ∈ _ by decide +kernel), trivial⟩ rfl rfl rfl ⟨Nat.le_of_ble_eq_true rfl, Nat.le_of_ble_eq_true rfl⟩ dX1_readPlay_96 rfl (fun z6 hz6 => ?_)
          exact ev_ireti hX hr dX1_readPlay_99
        · refine ev_iconst hX dX1_readPlay_84 (v := (-1)) (by decide +kernel) ?_
          refine ev_goto (tgt := 99) hX dX1_readPlay_85 (by decide) ?_
          exact ev_ireti hX hr dX1_readPlay_99
      · refine ev_iconst hX dX1_readPlay_72 (v := (-1)) (by decide +kernel) ?_
        exact ev_ireti hX hr dX1_readPlay_73
  · refine ev_aload_n hX dX1_readPlay_10 rfl ?_
    refine ev_dup hX dX1_readPlay_11 ?_
    refine ev_get (k := 4) hX (T := TX1) in_X1_readPlay_X1 rfl rfl rfl (show Cond.fieldLink RX1 26 "FiveShogi$PlayText" "cursor" "I" ∈ _ by decide +kernel) rfl dX1_readPlay_12 ?_
    refine ev_iconst hX dX1_readPlay_15 (v := 1) (by decide +kernel) ?_
    refine ev_iadd hX dX1_readPlay_16 ?_
    refine ev_put (k := 4) hX (T := TX1) (ty := .int) in_X1_readPlay_X1 tyX1 tyX1_ok nmX1 rfl rfl rfl (show Cond.fieldLink RX1 26 "FiveShogi$PlayText" "cursor" "I" ∈ _ by decide +kernel) rfl (by decide +kernel) rfl rfl rfl dX1_readPlay_17 ?_
    refine ev_aload_n hX dX1_readPlay_20 rfl ?_
    refine ev_bipush hX dX1_readPlay_21 (v := 42) (by decide +kernel) ?_
    refine ev_callVi hX (k0 := 11) (As := [.inl 42]) (rm := rm_X1_passes) (c_X1_passes l D cI cC td 42 (mv_up z1.2 11 4 ((z1.2 11 4) + 1))) (cwV 1 hX.ts gX1_readPlay_X1_passes rfl rfl rfl (by decide +kernel) ⟨Nat.le_of_ble_eq_true rfl, Nat.le_of_ble_eq_true rfl⟩) rfl rfl rfl rfl rfl rfl ⟨Nat.le_of_ble_eq_true rfl, Nat.le_of_ble_eq_true rfl⟩ dX1_readPlay_23 rfl (fun z7 hz7 => ?_)
    refine ev_if_eq (tgt := 36) hX dX1_readPlay_26 (by decide) ?_ ?_
    · refine ev_iconst hX dX1_readPlay_36 (v := (-1)) (by decide +kernel) ?_
      refine ev_mask [false, true, false, false] (L' := [none, some (.inl z1.1), none, none]) rfl rfl ?_
      exact e_X1_readPlay_37 hX hr z1.1 (-1) z7.2
    · refine ev_aload_n hX dX1_readPlay_29 rfl ?_
      refine ev_callVi hX (k0 := 11) (As := []) (rm := rm_X1_readSquare) (c_X1_readSquare l D cI cC td z7.2) (cwV 0 hX.ts gX1_readPlay_X1_readSquare rfl rfl rfl (by decide +kernel) ⟨Nat.le_of_ble_eq_true rfl, Nat.le_of_ble_eq_true rfl⟩) rfl rfl rfl rfl rfl rfl ⟨Nat.le_of_ble_eq_true rfl, Nat.le_of_ble_eq_true rfl⟩ dX1_readPlay_30 rfl (fun z8 hz8 => ?_)
      refine ev_goto (tgt := 37) hX dX1_readPlay_33 (by decide) ?_
      refine ev_mask [false, true, false, false] (L' := [none, some (.inl z1.1), none, none]) rfl rfl ?_
      exact e_X1_readPlay_37 hX hr z1.1 z8.1 z8.2
def rm_X1_readPlays : Room := { frames := 7, cells := 0, slots := 0, locals := 150 }
set_option maxRecDepth 20000 in
theorem in_X1_readPlays_X1 : ∀ w ∈ u_ws RX1 TX1 5, w ∈ wsX1_readPlays := by decide +kernel
set_option maxHeartbeats 4000000 in
set_option maxRecDepth 100000 in
theorem e_X1_readPlays_12 (hX : mv_X p s m args meth c D vwCl cI cC tbX td A cX1_readPlays 3 RX1 wsX1_readPlays) (hr : meth.sig.returnType = (some .int)) : ∀ (n : Nat) (x1 : Int32) (w : mvW), EV p l e (headSpec wsX1_readPlays rm_X1_readPlays).room s m args below meth c D vwCl cI cC td A (fun a => a = ad0) (mv_Qi below args s D vwCl cI cC shX ad0 A) 0 0 shX [some (.inr (.inl 11)), some (.inl x1), none] [] 12 w (f_X1_readPlays_12 n x1 w) := by
  intro n
  induction n with
  | zero => intro x1 w; exact ev_none
  | succ n ih =>
    intro x1 w
    rw [f_X1_readPlays_12]
    refine ev_iload_n hX dX1_readPlays_12 rfl ?_
    refine ev_aload_n hX dX1_readPlays_13 rfl ?_
    refine ev_getr (k := 2) hX (T := TX1) in_X1_readPlays_X1 rfl rfl rfl (show Cond.fieldLink RX1 19 "FiveShogi$PlayText" "plays" "[I" ∈ _ by decide +kernel) rfl dX1_readPlays_14 ?_
    refine ev_alen hX rfl (v := 60) (by decide +kernel) dX1_readPlays_17 ?_
    refine ev_icmp_ge (tgt := 83) hX dX1_readPlays_18 (by decide) ?_ ?_
    · refine ev_aload_n hX dX1_readPlays_83 rfl ?_
      refine ev_get (k := 4) hX (T := TX1) in_X1_readPlays_X1 rfl rfl rfl (show Cond.fieldLink RX1 26 "FiveShogi$PlayText" "cursor" "I" ∈ _ by decide +kernel) rfl dX1_readPlays_84 ?_
      exact ev_ireti hX hr dX1_readPlays_87
    · refine ev_aload_n hX dX1_readPlays_21 rfl ?_
      refine ev_callVi hX (k0 := 11) (As := []) (rm := rm_X1_readPlay) (c_X1_readPlay l D cI cC td w) (cwV 0 hX.ts gX1_readPlays_X1_readPlay rfl rfl rfl (by decide +kernel) ⟨Nat.le_of_ble_eq_true rfl, Nat.le_of_ble_eq_true rfl⟩) rfl rfl rfl rfl rfl rfl ⟨Nat.le_of_ble_eq_true rfl, Nat.le_of_ble_eq_true rfl⟩ dX1_readPlays_22 rfl (fun z1 hz1 => ?_)
      refine ev_istore_n hX dX1_readPlays_25 rfl (L' := [some (.inr (.inl 11)), some (.inl x1), some (.inl z1.1)]) rfl ?_
      refine ev_iload_n hX dX1_readPlays_26 rfl ?_
      refine ev_iconst hX dX1_readPlays_27 (v := (-1)) (by decide +kernel) ?_
      refine ev_icmp_ne (tgt := 36) hX dX1_readPlays_28 (by decide) ?_ ?_
      · refine ev_aload_n hX dX1_readPlays_36 rfl ?_
        refine ev_getr (k := 2) hX (T := TX1) in_X1_readPlays_X1 rfl rfl rfl (show Cond.fieldLink RX1 19 "FiveShogi$PlayText" "plays" "[I" ∈ _ by decide +kernel) rfl dX1_readPlays_37 ?_
        refine ev_iload_n hX dX1_readPlays_40 rfl ?_
        refine ev_iload_n hX dX1_readPlays_41 rfl ?_
        refine ev_iast hX rfl dX1_readPlays_42 (fun j2 => ?_)
        refine ev_aload_n hX dX1_readPlays_43 rfl ?_
        refine ev_iload_n hX dX1_readPlays_44 rfl ?_
        refine ev_iconst hX dX1_readPlays_45 (v := 1) (by decide +kernel) ?_
        refine ev_iadd hX dX1_readPlays_46 ?_
        refine ev_put (k := 3) hX (T := TX1) (ty := .int) in_X1_readPlays_X1 tyX1 tyX1_ok nmX1 rfl rfl rfl (show Cond.fieldLink RX1 23 "FiveShogi$PlayText" "playsRead" "I" ∈ _ by decide +kernel) rfl (by decide +kernel) rfl rfl rfl dX1_readPlays_47 ?_
        refine ev_aload_n hX dX1_readPlays_50 rfl ?_
        refine ev_get (k := 4) hX (T := TX1) in_X1_readPlays_X1 rfl rfl rfl (show Cond.fieldLink RX1 26 "FiveShogi$PlayText" "cursor" "I" ∈ _ by decide +kernel) rfl dX1_readPlays_51 ?_
        refine ev_aload_n hX dX1_readPlays_54 rfl ?_
        refine ev_get (k := 1) hX (T := TX1) in_X1_readPlays_X1 rfl rfl rfl (show Cond.fieldLink RX1 15 "FiveShogi$PlayText" "size" "I" ∈ _ by decide +kernel) rfl dX1_readPlays_55 ?_
        refine ev_icmp_lt (tgt := 63) hX dX1_readPlays_58 (by decide) ?_ ?_
        · refine ev_aload_n hX dX1_readPlays_63 rfl ?_
          refine ev_bipush hX dX1_readPlays_64 (v := 59) (by decide +kernel) ?_
          refine ev_callVi hX (k0 := 11) (As := [.inl 59]) (rm := rm_X1_passes) (c_X1_passes l D cI cC td 59 (mv_up (mv_up z1.2 13 j2 z1.1) 11 3 (x1 + 1))) (cwV 1 hX.ts gX1_readPlays_X1_passes rfl rfl rfl (by decide +kernel) ⟨Nat.le_of_ble_eq_true rfl, Nat.le_of_ble_eq_true rfl⟩) rfl rfl rfl rfl rfl rfl ⟨Nat.le_of_ble_eq_true rfl, Nat.le_of_ble_eq_true rfl⟩ dX1_readPlays_66 rfl (fun z3 hz3 => ?_)
          refine ev_if_ne (tgt := 77) hX dX1_readPlays_69 (by decide) ?_ ?_
          · refine ev_iinc hX dX1_readPlays_77 rfl (v := 1) (by decide +kernel) (L' := [some (.inr (.inl 11)), some (.inl (x1 + 1)), some (.inl z1.1)]) rfl ?_
            refine ev_goto (tgt := 12) hX dX1_readPlays_80 (by decide) ?_
            refine ev_mask [true, true, false] (L' := [some (.inr (.inl 11)), some (.inl (x1 + 1)), none]) rfl rfl ?_
            exact ih (x1 + 1) z3.2
          · refine ev_aload_n hX dX1_readPlays_72 rfl ?_
            refine ev_get (k := 4) hX (T := TX1) in_X1_readPlays_X1 rfl rfl rfl (show Cond.fieldLink RX1 26 "FiveShogi$PlayText" "cursor" "I" ∈ _ by decide +kernel) rfl dX1_readPlays_73 ?_
            exact ev_ireti hX hr dX1_readPlays_76
        · refine ev_iconst hX dX1_readPlays_61 (v := (-1)) (by decide +kernel) ?_
          exact ev_ireti hX hr dX1_readPlays_62
      · refine ev_aload_n hX dX1_readPlays_31 rfl ?_
        refine ev_get (k := 4) hX (T := TX1) in_X1_readPlays_X1 rfl rfl rfl (show Cond.fieldLink RX1 26 "FiveShogi$PlayText" "cursor" "I" ∈ _ by decide +kernel) rfl dX1_readPlays_32 ?_
        exact ev_ireti hX hr dX1_readPlays_35
set_option maxHeartbeats 4000000 in
set_option maxRecDepth 100000 in
theorem c_X1_readPlays (l : Launch) (D : va_G) (cI cC : ClassId) (td : Nat → Option Nat) (w : mvW) : ∀ z, f_X1_readPlays w = some z → mv_Ci l D vwCl cI cC tbX td yX1_readPlays wsX1_readPlays rm_X1_readPlays shX w [.inr (.inl 11)] z := by
  refine mv_starti (own := RX1) rfl (by decide) rfl rfl (L0 := [some (.inr (.inl 11)), none, none]) rfl (fun p e s m args below meth c A ad0 hX hr => ?_)
  rw [f_X1_readPlays]
  refine ev_aload_n hX dX1_readPlays_0 rfl ?_
  refine ev_iconst hX dX1_readPlays_1 (v := 0) (by decide +kernel) ?_
  refine ev_put (k := 4) hX (T := TX1) (ty := .int) in_X1_readPlays_X1 tyX1 tyX1_ok nmX1 rfl rfl rfl (show Cond.fieldLink RX1 26 "FiveShogi$PlayText" "cursor" "I" ∈ _ by decide +kernel) rfl (by decide +kernel) rfl rfl rfl dX1_readPlays_2 ?_
  refine ev_aload_n hX dX1_readPlays_5 rfl ?_
  refine ev_iconst hX dX1_readPlays_6 (v := 0) (by decide +kernel) ?_
  refine ev_put (k := 3) hX (T := TX1) (ty := .int) in_X1_readPlays_X1 tyX1 tyX1_ok nmX1 rfl rfl rfl (show Cond.fieldLink RX1 23 "FiveShogi$PlayText" "playsRead" "I" ∈ _ by decide +kernel) rfl (by decide +kernel) rfl rfl rfl dX1_readPlays_7 ?_
  refine ev_iconst hX dX1_readPlays_10 (v := 0) (by decide +kernel) ?_
  refine ev_istore_n hX dX1_readPlays_11 rfl (L' := [some (.inr (.inl 11)), some (.inl 0), none]) rfl ?_
  refine ev_mask [true, true, false] (L' := [some (.inr (.inl 11)), some (.inl 0), none]) rfl rfl ?_
  exact e_X1_readPlays_12 hX hr 4096 0 (mv_up (mv_up w 11 4 0) 11 3 0)
def rm_X1_playsRead : Room := { frames := 0, cells := 0, slots := 0, locals := 0 }
set_option maxRecDepth 20000 in
theorem in_X1_playsRead_X1 : ∀ w ∈ u_ws RX1 TX1 5, w ∈ wsX1_playsRead := by decide +kernel
set_option maxHeartbeats 4000000 in
set_option maxRecDepth 100000 in
theorem c_X1_playsRead (l : Launch) (D : va_G) (cI cC : ClassId) (td : Nat → Option Nat) (w : mvW) : ∀ z, f_X1_playsRead w = some z → mv_Ci l D vwCl cI cC tbX td yX1_playsRead wsX1_playsRead rm_X1_playsRead shX w [.inr (.inl 11)] z := by
  refine mv_starti (own := RX1) rfl (by decide) rfl rfl (L0 := [some (.inr (.inl 11))]) rfl (fun p e s m args below meth c A ad0 hX hr => ?_)
  rw [f_X1_playsRead]
  refine ev_aload_n hX dX1_playsRead_0 rfl ?_
  refine ev_get (k := 3) hX (T := TX1) in_X1_playsRead_X1 rfl rfl rfl (show Cond.fieldLink RX1 23 "FiveShogi$PlayText" "playsRead" "I" ∈ _ by decide +kernel) rfl dX1_playsRead_1 ?_
  exact ev_ireti hX hr dX1_playsRead_4
def rm_X1_playRead : Room := { frames := 0, cells := 0, slots := 0, locals := 0 }
set_option maxRecDepth 20000 in
theorem in_X1_playRead_X1 : ∀ w ∈ u_ws RX1 TX1 5, w ∈ wsX1_playRead := by decide +kernel
set_option maxHeartbeats 4000000 in
set_option maxRecDepth 100000 in
theorem c_X1_playRead (l : Launch) (D : va_G) (cI cC : ClassId) (td : Nat → Option Nat) (a1 : Int32) (w : mvW) : ∀ z, f_X1_playRead a1 w = some z → mv_Ci l D vwCl cI cC tbX td yX1_playRead wsX1_playRead rm_X1_playRead shX w [.inr (.inl 11), .inl a1] z := by
  refine mv_starti (own := RX1) rfl (by decide) rfl rfl (L0 := [some (.inr (.inl 11)), some (.inl a1)]) rfl (fun p e s m args below meth c A ad0 hX hr => ?_)
  rw [f_X1_playRead]
  refine ev_iload_n hX dX1_playRead_0 rfl ?_
  refine ev_if_lt (tgt := 30) hX dX1_playRead_1 (by decide) ?_ ?_
  · refine ev_iconst hX dX1_playRead_30 (v := (-1)) (by decide +kernel) ?_
    exact ev_ireti hX hr dX1_playRead_31
  · refine ev_iload_n hX dX1_playRead_4 rfl ?_
    refine ev_aload_n hX dX1_playRead_5 rfl ?_
    refine ev_get (k := 3) hX (T := TX1) in_X1_playRead_X1 rfl rfl rfl (show Cond.fieldLink RX1 23 "FiveShogi$PlayText" "playsRead" "I" ∈ _ by decide +kernel) rfl dX1_playRead_6 ?_
    refine ev_icmp_ge (tgt := 30) hX dX1_playRead_9 (by decide) ?_ ?_
    · refine ev_iconst hX dX1_playRead_30 (v := (-1)) (by decide +kernel) ?_
      exact ev_ireti hX hr dX1_playRead_31
    · refine ev_iload_n hX dX1_playRead_12 rfl ?_
      refine ev_aload_n hX dX1_playRead_13 rfl ?_
      refine ev_getr (k := 2) hX (T := TX1) in_X1_playRead_X1 rfl rfl rfl (show Cond.fieldLink RX1 19 "FiveShogi$PlayText" "plays" "[I" ∈ _ by decide +kernel) rfl dX1_playRead_14 ?_
      refine ev_alen hX rfl (v := 60) (by decide +kernel) dX1_playRead_17 ?_
      refine ev_icmp_ge (tgt := 30) hX dX1_playRead_18 (by decide) ?_ ?_
      · refine ev_iconst hX dX1_playRead_30 (v := (-1)) (by decide +kernel) ?_
        exact ev_ireti hX hr dX1_playRead_31
      · refine ev_aload_n hX dX1_playRead_21 rfl ?_
        refine ev_getr (k := 2) hX (T := TX1) in_X1_playRead_X1 rfl rfl rfl (show Cond.fieldLink RX1 19 "FiveShogi$PlayText" "plays" "[I" ∈ _ by decide +kernel) rfl dX1_playRead_22 ?_
        refine ev_iload_n hX dX1_playRead_25 rfl ?_
        refine ev_iald hX rfl dX1_playRead_26 (fun j1 => ?_)
        refine ev_goto (tgt := 31) hX dX1_playRead_27 (by decide) ?_
        exact ev_ireti hX hr dX1_playRead_31
def rm_X2_copyFrom : Room := { frames := 1, cells := 0, slots := 0, locals := 40 }
set_option maxRecDepth 20000 in
theorem in_X2_copyFrom_X2 : ∀ w ∈ u_ws RX2 TX2 2, w ∈ wsX2_copyFrom := by decide +kernel
set_option maxHeartbeats 4000000 in
set_option maxRecDepth 100000 in
theorem c_X2_copyFrom_14 (l : Launch) (D : va_G) (cI cC : ClassId) (td : Nat → Option Nat) (a2 : Int32) (w : mvW) : ∀ z, f_X2_copyFrom_14 a2 w = some z → mv_Cv l D vwCl cI cC tbX td yX2_copyFrom wsX2_copyFrom rm_X2_copyFrom shX w [.inr (.inl 1), .inr (.inl 14), .inl a2] z := by
  refine mv_startv (own := RX2) rfl (by decide) rfl rfl (L0 := [some (.inr (.inl 1)), some (.inr (.inl 14)), some (.inl a2)]) rfl (fun p e s m args below meth c A ad0 hX hr => ?_)
  rw [f_X2_copyFrom_14]
  refine ev_aload_n hX dX2_copyFrom_0 rfl ?_
  refine ev_ifnull hX dX2_copyFrom_1 ?_
  refine ev_iload_n hX dX2_copyFrom_4 rfl ?_
  refine ev_if_lt (tgt := 29) hX dX2_copyFrom_5 (by decide) ?_ ?_
  · exact ev_vret hX hr dX2_copyFrom_29
  · refine ev_iload_n hX dX2_copyFrom_8 rfl ?_
    refine ev_aload_n hX dX2_copyFrom_9 rfl ?_
    refine ev_alen hX rfl (v := 44) (by decide +kernel) dX2_copyFrom_10 ?_
    refine ev_bipush hX dX2_copyFrom_11 (v := 44) (by decide +kernel) ?_
    refine ev_isub hX dX2_copyFrom_13 ?_
    refine ev_icmp_gt (tgt := 29) hX dX2_copyFrom_14 (by decide) ?_ ?_
    · exact ev_vret hX hr dX2_copyFrom_29
    · refine ev_aload_n hX dX2_copyFrom_17 rfl ?_
      refine ev_iload_n hX dX2_copyFrom_18 rfl ?_
      refine ev_aload_n hX dX2_copyFrom_19 rfl ?_
      refine ev_getr (k := 0) hX (T := TX2) in_X2_copyFrom_X2 rfl rfl rfl (show Cond.fieldLink RX2 11 "FiveShogi$Position" "state" "[I" ∈ _ by decide +kernel) rfl dX2_copyFrom_20 ?_
      refine ev_iconst hX dX2_copyFrom_23 (v := 0) (by decide +kernel) ?_
      refine ev_bipush hX dX2_copyFrom_24 (v := 44) (by decide +kernel) ?_
      refine ev_copy hX rfl rfl (show Cond.methodLink RX2 32 arraycopyName ∈ _ by decide +kernel) (by decide +kernel) (by decide +kernel) (by decide +kernel) rfl (Nat.le_of_ble_eq_true rfl) (Nat.le_of_ble_eq_true rfl) dX2_copyFrom_26 (fun q1 => ?_)
      exact ev_vret hX hr dX2_copyFrom_29
def rm_X4_perform : Room := { frames := 8, cells := 0, slots := 0, locals := 172 }
set_option maxRecDepth 20000 in
theorem in_X4_perform_X4 : ∀ w ∈ u_ws RX4 TX4 7, w ∈ wsX4_perform := by decide +kernel
set_option maxHeartbeats 4000000 in
set_option maxRecDepth 100000 in
theorem e_X4_perform_33 (hX : mv_X p s m args meth c D vwCl cI cC tbX td A cX4_perform 4 RX4 wsX4_perform) (hr : meth.sig.returnType = (some .int)) : ∀ (n : Nat) (x2 : Int32) (w : mvW), EV p l e (headSpec wsX4_perform rm_X4_perform).room s m args below meth c D vwCl cI cC td A (fun a => a = ad0) (mv_Qi below args s D vwCl cI cC shX ad0 A) 0 0 shX [some (.inr (.inl 0)), none, some (.inl x2), none] [] 33 w (f_X4_perform_33 n x2 w) := by
  intro n
  induction n with
  | zero => intro x2 w; exact ev_none
  | succ n ih =>
    intro x2 w
    rw [f_X4_perform_33]
    refine ev_iload_n hX dX4_perform_33 rfl ?_
    refine ev_aload_n hX dX4_perform_34 rfl ?_
    refine ev_getr (k := 3) hX (T := TX4) in_X4_perform_X4 rfl rfl rfl (show Cond.fieldLink RX4 35 "FiveShogi" "text" "LFiveShogi$PlayText;" ∈ _ by decide +kernel) rfl dX4_perform_35 ?_
    refine ev_callVi hX (k0 := 11) (As := []) (rm := rm_X1_playsRead) (c_X1_playsRead l D cI cC td w) (cwV 0 hX.ts gX4_perform_X1_playsRead rfl rfl rfl (by decide +kernel) ⟨Nat.le_of_ble_eq_true rfl, Nat.le_of_ble_eq_true rfl⟩) rfl rfl rfl rfl rfl rfl ⟨Nat.le_of_ble_eq_true rfl, Nat.le_of_ble_eq_true rfl⟩ dX4_perform_38 rfl (fun z3 hz3 => ?_)
    refine ev_icmp_ge (tgt := 95) hX dX4_perform_41 (by decide) ?_ ?_
    · refine ev_aload_n hX dX4_perform_95 rfl ?_
      refine ev_getr (k := 2) hX (T := TX4) in_X4_perform_X4 rfl rfl rfl (show Cond.fieldLink RX4 28 "FiveShogi" "history" "LFiveShogi$History;" ∈ _ by decide +kernel) rfl dX4_perform_96 ?_
      refine ev_aload_n hX dX4_perform_99 rfl ?_
      refine ev_getr (k := 4) hX (T := TX4) in_X4_perform_X4 rfl rfl rfl (show Cond.fieldLink RX4 39 "FiveShogi" "before" "[I" ∈ _ by decide +kernel) rfl dX4_perform_100 ?_
      refine ev_callVv hX (k0 := 9) (As := [.inr (.inl 14)]) (rm := rm_X0_push) (c_X0_push_14 l D cI cC td z3.2) (cwV 1 hX.ts gX4_perform_X0_push rfl rfl rfl (by decide +kernel) ⟨Nat.le_of_ble_eq_true rfl, Nat.le_of_ble_eq_true rfl⟩) rfl rfl rfl rfl rfl rfl ⟨Nat.le_of_ble_eq_true rfl, Nat.le_of_ble_eq_true rfl⟩ dX4_perform_103 rfl (fun z4 hz4 => ?_)
      refine ev_aload_n hX dX4_perform_106 rfl ?_
      refine ev_getr (k := 3) hX (T := TX4) in_X4_perform_X4 rfl rfl rfl (show Cond.fieldLink RX4 35 "FiveShogi" "text" "LFiveShogi$PlayText;" ∈ _ by decide +kernel) rfl dX4_perform_107 ?_
      refine ev_callVi hX (k0 := 11) (As := []) (rm := rm_X1_playsRead) (c_X1_playsRead l D cI cC td z4) (cwV 0 hX.ts gX4_perform_X1_playsRead rfl rfl rfl (by decide +kernel) ⟨Nat.le_of_ble_eq_true rfl, Nat.le_of_ble_eq_true rfl⟩) rfl rfl rfl rfl rfl rfl ⟨Nat.le_of_ble_eq_true rfl, Nat.le_of_ble_eq_true rfl⟩ dX4_perform_110 rfl (fun z5 hz5 => ?_)
      exact ev_ireti hX hr dX4_perform_113
    · refine ev_aload_n hX dX4_perform_44 rfl ?_
      refine ev_getr (k := 3) hX (T := TX4) in_X4_perform_X4 rfl rfl rfl (show Cond.fieldLink RX4 35 "FiveShogi" "text" "LFiveShogi$PlayText;" ∈ _ by decide +kernel) rfl dX4_perform_45 ?_
      refine ev_iload_n hX dX4_perform_48 rfl ?_
      refine ev_callVi hX (k0 := 11) (As := [.inl x2]) (rm := rm_X1_playRead) (c_X1_playRead l D cI cC td x2 z3.2) (cwV 1 hX.ts gX4_perform_X1_playRead rfl rfl rfl (by decide +kernel) ⟨Nat.le_of_ble_eq_true rfl, Nat.le_of_ble_eq_true rfl⟩) rfl rfl rfl rfl rfl rfl ⟨Nat.le_of_ble_eq_true rfl, Nat.le_of_ble_eq_true rfl⟩ dX4_perform_49 rfl (fun z6 hz6 => ?_)
      refine ev_istore_n hX dX4_perform_52 rfl (L' := [some (.inr (.inl 0)), none, some (.inl x2), some (.inl z6.1)]) rfl ?_
      refine ev_aload_n hX dX4_perform_53 rfl ?_
      refine ev_getr (k := 1) hX (T := TX4) in_X4_perform_X4 rfl rfl rfl (show Cond.fieldLink RX4 21 "FiveShogi" "rules" "LFiveShogi$Rules;" ∈ _ by decide +kernel) rfl dX4_perform_54 ?_
      refine ev_iload_n hX dX4_perform_57 rfl ?_
      refine ev_callVi hX (k0 := 4) (As := [.inl z6.1]) (rm := rm_X3_allows) (c_X3_allows l D cI cC td z6.1 z6.2) (cwV 1 hX.ts gX4_perform_X3_allows rfl rfl rfl (by decide +kernel) ⟨Nat.le_of_ble_eq_true rfl, Nat.le_of_ble_eq_true rfl⟩) rfl rfl rfl rfl rfl rfl ⟨Nat.le_of_ble_eq_true rfl, Nat.le_of_ble_eq_true rfl⟩ dX4_perform_58 rfl (fun z7 hz7 => ?_)
      refine ev_if_ne (tgt := 80) hX dX4_perform_61 (by decide) ?_ ?_
      · refine ev_aload_n hX dX4_perform_80 rfl ?_
        refine ev_getr (k := 0) hX (T := TX4) in_X4_perform_X4 rfl rfl rfl (show Cond.fieldLink RX4 12 "FiveShogi" "position" "LFiveShogi$Position;" ∈ _ by decide +kernel) rfl dX4_perform_81 ?_
        refine ev_iload_n hX dX4_perform_84 rfl ?_
        refine ev_callVi hX (k0 := 1) (As := [.inl z6.1]) (rm := rm_X2_play) (c_X2_play l D cI cC td z6.1 z7.2) (cwV 1 hX.ts gX4_perform_X2_play rfl rfl rfl (by decide +kernel) ⟨Nat.le_of_ble_eq_true rfl, Nat.le_of_ble_eq_true rfl⟩) rfl rfl rfl rfl rfl rfl ⟨Nat.le_of_ble_eq_true rfl, Nat.le_of_ble_eq_true rfl⟩ dX4_perform_85 rfl (fun z8 hz8 => ?_)
        refine ev_pop hX dX4_perform_88 ?_
        refine ev_iinc hX dX4_perform_89 rfl (v := 1) (by decide +kernel) (L' := [some (.inr (.inl 0)), none, some (.inl (x2 + 1)), some (.inl z6.1)]) rfl ?_
        refine ev_goto (tgt := 33) hX dX4_perform_92 (by decide) ?_
        refine ev_mask [true, false, true, false] (L' := [some (.inr (.inl 0)), none, some (.inl (x2 + 1)), none]) rfl rfl ?_
        exact ih (x2 + 1) z8.2
      · refine ev_aload_n hX dX4_perform_64 rfl ?_
        refine ev_getr (k := 0) hX (T := TX4) in_X4_perform_X4 rfl rfl rfl (show Cond.fieldLink RX4 12 "FiveShogi" "position" "LFiveShogi$Position;" ∈ _ by decide +kernel) rfl dX4_perform_65 ?_
        refine ev_aload_n hX dX4_perform_68 rfl ?_
        refine ev_getr (k := 4) hX (T := TX4) in_X4_perform_X4 rfl rfl rfl (show Cond.fieldLink RX4 39 "FiveShogi" "before" "[I" ∈ _ by decide +kernel) rfl dX4_perform_69 ?_
        refine ev_iconst hX dX4_perform_72 (v := 0) (by decide +kernel) ?_
        refine ev_callVv hX (k0 := 1) (As := [.inr (.inl 14), .inl 0]) (rm := rm_X2_copyFrom) (c_X2_copyFrom_14 l D cI cC td 0 z7.2) (cwV 2 hX.ts gX4_perform_X2_copyFrom rfl rfl rfl (by decide +kernel) ⟨Nat.le_of_ble_eq_true rfl, Nat.le_of_ble_eq_true rfl⟩) rfl rfl rfl rfl rfl rfl ⟨Nat.le_of_ble_eq_true rfl, Nat.le_of_ble_eq_true rfl⟩ dX4_perform_73 rfl (fun z9 hz9 => ?_)
        refine ev_sipush hX dX4_perform_76 (v := (-1004)) (by decide +kernel) ?_
        exact ev_ireti hX hr dX4_perform_79
set_option maxHeartbeats 4000000 in
set_option maxRecDepth 100000 in
theorem c_X4_perform (l : Launch) (D : va_G) (cI cC : ClassId) (td : Nat → Option Nat) (w : mvW) : ∀ z, f_X4_perform w = some z → mv_Ci l D vwCl cI cC tbX td yX4_perform wsX4_perform rm_X4_perform shX w [.inr (.inl 0)] z := by
  refine mv_starti (own := RX4) rfl (by decide) rfl rfl (L0 := [some (.inr (.inl 0)), none, none, none]) rfl (fun p e s m args below meth c A ad0 hX hr => ?_)
  rw [f_X4_perform]
  refine ev_aload_n hX dX4_perform_0 rfl ?_
  refine ev_getr (k := 3) hX (T := TX4) in_X4_perform_X4 rfl rfl rfl (show Cond.fieldLink RX4 35 "FiveShogi" "text" "LFiveShogi$PlayText;" ∈ _ by decide +kernel) rfl dX4_perform_1 ?_
  refine ev_callVi hX (k0 := 11) (As := []) (rm := rm_X1_readPlays) (c_X1_readPlays l D cI cC td w) (cwV 0 hX.ts gX4_perform_X1_readPlays rfl rfl rfl (by decide +kernel) ⟨Nat.le_of_ble_eq_true rfl, Nat.le_of_ble_eq_true rfl⟩) rfl rfl rfl rfl rfl rfl ⟨Nat.le_of_ble_eq_true rfl, Nat.le_of_ble_eq_true rfl⟩ dX4_perform_4 rfl (fun z1 hz1 => ?_)
  refine ev_istore_n hX dX4_perform_7 rfl (L' := [some (.inr (.inl 0)), some (.inl z1.1), none, none]) rfl ?_
  refine ev_iload_n hX dX4_perform_8 rfl ?_
  refine ev_iconst hX dX4_perform_9 (v := (-1)) (by decide +kernel) ?_
  refine ev_icmp_eq (tgt := 19) hX dX4_perform_10 (by decide) ?_ ?_
  · refine ev_aload_n hX dX4_perform_19 rfl ?_
    refine ev_getr (k := 0) hX (T := TX4) in_X4_perform_X4 rfl rfl rfl (show Cond.fieldLink RX4 12 "FiveShogi" "position" "LFiveShogi$Position;" ∈ _ by decide +kernel) rfl dX4_perform_20 ?_
    refine ev_aload_n hX dX4_perform_23 rfl ?_
    refine ev_getr (k := 4) hX (T := TX4) in_X4_perform_X4 rfl rfl rfl (show Cond.fieldLink RX4 39 "FiveShogi" "before" "[I" ∈ _ by decide +kernel) rfl dX4_perform_24 ?_
    refine ev_iconst hX dX4_perform_27 (v := 0) (by decide +kernel) ?_
    refine ev_callVv hX (k0 := 1) (As := [.inr (.inl 14), .inl 0]) (rm := rm_X2_copyTo) (c_X2_copyTo_14 l D cI cC td 0 z1.2) (cwV 2 hX.ts gX4_perform_X2_copyTo rfl rfl rfl (by decide +kernel) ⟨Nat.le_of_ble_eq_true rfl, Nat.le_of_ble_eq_true rfl⟩) rfl rfl rfl rfl rfl rfl ⟨Nat.le_of_ble_eq_true rfl, Nat.le_of_ble_eq_true rfl⟩ dX4_perform_28 rfl (fun z2 hz2 => ?_)
    refine ev_iconst hX dX4_perform_31 (v := 0) (by decide +kernel) ?_
    refine ev_istore_n hX dX4_perform_32 rfl (L' := [some (.inr (.inl 0)), some (.inl z1.1), some (.inl 0), none]) rfl ?_
    refine ev_mask [true, false, true, false] (L' := [some (.inr (.inl 0)), none, some (.inl 0), none]) rfl rfl ?_
    exact e_X4_perform_33 hX hr 4096 0 z2
  · refine ev_sipush hX dX4_perform_13 (v := (-2000)) (by decide +kernel) ?_
    refine ev_iload_n hX dX4_perform_16 rfl ?_
    refine ev_isub hX dX4_perform_17 ?_
    exact ev_ireti hX hr dX4_perform_18
def rm_X5_sign : Room := { frames := 0, cells := 0, slots := 0, locals := 0 }
set_option maxRecDepth 20000 in
theorem in_X5_sign_X5 : ∀ w ∈ u_ws RX5 TX5 8, w ∈ wsX5_sign := by decide +kernel
set_option maxHeartbeats 4000000 in
set_option maxRecDepth 100000 in
theorem c_X5_sign (l : Launch) (D : va_G) (cI cC : ClassId) (td : Nat → Option Nat) (a1 : Int32) (w : mvW) : ∀ z, f_X5_sign a1 w = some z → mv_Ci l D vwCl cI cC tbX td yX5_sign wsX5_sign rm_X5_sign shM w [.inr (.inl 0), .inl a1] z := by
  refine mv_starti (own := RX5) rfl (by decide) rfl rfl (L0 := [some (.inr (.inl 0)), some (.inl a1)]) rfl (fun p e s m args below meth c A ad0 hX hr => ?_)
  rw [f_X5_sign]
  refine ev_iload_n hX dX5_sign_0 rfl ?_
  refine ev_aload_n hX dX5_sign_1 rfl ?_
  refine ev_get (k := 7) hX (T := TX5) in_X5_sign_X5 rfl rfl rfl (show Cond.fieldLink RX5 132 "FiveShogiModel" "length" "I" ∈ _ by decide +kernel) rfl dX5_sign_2 ?_
  refine ev_icmp_ge (tgt := 17) hX dX5_sign_5 (by decide) ?_ ?_
  · refine ev_iconst hX dX5_sign_17 (v := (-1)) (by decide +kernel) ?_
    exact ev_ireti hX hr dX5_sign_18
  · refine ev_aload_n hX dX5_sign_8 rfl ?_
    refine ev_getr (k := 6) hX (T := TX5) in_X5_sign_X5 rfl rfl rfl (show Cond.fieldLink RX5 22 "FiveShogiModel" "text" "[I" ∈ _ by decide +kernel) rfl dX5_sign_9 ?_
    refine ev_iload_n hX dX5_sign_12 rfl ?_
    refine ev_iald hX rfl dX5_sign_13 (fun j1 => ?_)
    refine ev_goto (tgt := 18) hX dX5_sign_14 (by decide) ?_
    exact ev_ireti hX hr dX5_sign_18
end
