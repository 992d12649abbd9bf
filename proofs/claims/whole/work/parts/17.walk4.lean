section
variable {p : Program} {l : Launch} {e : Env} {s : State} {m : MethodId} {args : Array Value} {below : List Frame} {meth : Method} {c : Code} {D : va_G} {cI cC : ClassId} {td : Nat → Option Nat} {A : Nat → Prop} {ad0 : Nat → Nat}
def rm_X5_kindOfLetter : Room := { frames := 0, cells := 0, slots := 0, locals := 0 }
set_option maxHeartbeats 4000000 in
set_option maxRecDepth 100000 in
theorem c_X5_kindOfLetter (l : Launch) (D : va_G) (cI cC : ClassId) (td : Nat → Option Nat) (a0 : Int32) (w : mvW) : ∀ z, f_X5_kindOfLetter a0 w = some z → mv_Ci l D vwCl cI cC tbX td yX5_kindOfLetter wsX5_kindOfLetter rm_X5_kindOfLetter shM w [.inl a0] z := by
  refine mv_starti (own := RX5) rfl (by decide) rfl rfl (L0 := [some (.inl a0)]) rfl (fun p e s m args below meth c A ad0 hX hr => ?_)
  rw [f_X5_kindOfLetter]
  refine ev_iload_n hX dX5_kindOfLetter_0 rfl ?_
  refine ev_case 98 (fun c_1_0 => ?_) (fun c_1_0 => ?_)
  · refine ev_lks (tgt := 56) hX dX5_kindOfLetter_1 (by decide) (off := 55) (by rw [c_1_0]; decide) (by decide) ?_
    refine ev_iconst hX dX5_kindOfLetter_56 (v := 3) (by decide +kernel) ?_
    exact ev_ireti hX hr dX5_kindOfLetter_57
  · refine ev_case 103 (fun c_1_1 => ?_) (fun c_1_1 => ?_)
    · refine ev_lks (tgt := 52) hX dX5_kindOfLetter_1 (by decide) (off := 51) (by rw [c_1_1]; decide) (by decide) ?_
      refine ev_iconst hX dX5_kindOfLetter_52 (v := 1) (by decide +kernel) ?_
      exact ev_ireti hX hr dX5_kindOfLetter_53
    · refine ev_case 112 (fun c_1_2 => ?_) (fun c_1_2 => ?_)
      · refine ev_lks (tgt := 60) hX dX5_kindOfLetter_1 (by decide) (off := 59) (by rw [c_1_2]; decide) (by decide) ?_
        refine ev_iconst hX dX5_kindOfLetter_60 (v := 5) (by decide +kernel) ?_
        exact ev_ireti hX hr dX5_kindOfLetter_61
      · refine ev_case 114 (fun c_1_3 => ?_) (fun c_1_3 => ?_)
        · refine ev_lks (tgt := 58) hX dX5_kindOfLetter_1 (by decide) (off := 57) (by rw [c_1_3]; decide) (by decide) ?_
          refine ev_iconst hX dX5_kindOfLetter_58 (v := 4) (by decide +kernel) ?_
          exact ev_ireti hX hr dX5_kindOfLetter_59
        · refine ev_case 115 (fun c_1_4 => ?_) (fun c_1_4 => ?_)
          · refine ev_lks (tgt := 54) hX dX5_kindOfLetter_1 (by decide) (off := 53) (by rw [c_1_4]; decide) (by decide) ?_
            refine ev_iconst hX dX5_kindOfLetter_54 (v := 2) (by decide +kernel) ?_
            exact ev_ireti hX hr dX5_kindOfLetter_55
          · refine ev_lks (tgt := 62) hX dX5_kindOfLetter_1 (by decide) (off := 61) (by have h0 : ¬ (98 : Int) = (a0).toInt := fun e => mv_ne c_1_0 e.symm; have h1 : ¬ (103 : Int) = (a0).toInt := fun e => mv_ne c_1_1 e.symm; have h2 : ¬ (112 : Int) = (a0).toInt := fun e => mv_ne c_1_2 e.symm; have h3 : ¬ (114 : Int) = (a0).toInt := fun e => mv_ne c_1_3 e.symm; have h4 : ¬ (115 : Int) = (a0).toInt := fun e => mv_ne c_1_4 e.symm; simp [Op.lookupswitch.offset, h0, h1, h2, h3, h4]) (by decide) ?_
            refine ev_iconst hX dX5_kindOfLetter_62 (v := 0) (by decide +kernel) ?_
            exact ev_ireti hX hr dX5_kindOfLetter_63
def rm_X5_squareEnd : Room := { frames := 1, cells := 0, slots := 0, locals := 22 }
set_option maxHeartbeats 4000000 in
set_option maxRecDepth 100000 in
theorem c_X5_squareEnd (l : Launch) (D : va_G) (cI cC : ClassId) (td : Nat → Option Nat) (a1 : Int32) (w : mvW) : ∀ z, f_X5_squareEnd a1 w = some z → mv_Ci l D vwCl cI cC tbX td yX5_squareEnd wsX5_squareEnd rm_X5_squareEnd shM w [.inr (.inl 0), .inl a1] z := by
  refine mv_starti (own := RX5) rfl (by decide) rfl rfl (L0 := [some (.inr (.inl 0)), some (.inl a1)]) rfl (fun p e s m args below meth c A ad0 hX hr => ?_)
  rw [f_X5_squareEnd]
  refine ev_iload_n hX dX5_squareEnd_0 rfl ?_
  refine ev_if_ge (tgt := 6) hX dX5_squareEnd_1 (by decide) ?_ ?_
  · refine ev_aload_n hX dX5_squareEnd_6 rfl ?_
    refine ev_iload_n hX dX5_squareEnd_7 rfl ?_
    refine ev_callVi hX (k0 := 0) (As := [.inl a1]) (rm := rm_X5_sign) (c_X5_sign l D cI cC td a1 w) (cwV 1 hX.ts gX5_squareEnd_X5_sign rfl rfl rfl (by decide +kernel) ⟨Nat.le_of_ble_eq_true rfl, Nat.le_of_ble_eq_true rfl⟩) rfl rfl rfl rfl rfl rfl ⟨Nat.le_of_ble_eq_true rfl, Nat.le_of_ble_eq_true rfl⟩ dX5_squareEnd_8 rfl (fun z1 hz1 => ?_)
    refine ev_bipush hX dX5_squareEnd_11 (v := 48) (by decide +kernel) ?_
    refine ev_bipush hX dX5_squareEnd_13 (v := 52) (by decide +kernel) ?_
    refine ev_callSi hX (As := [.inl z1.1, .inl 48, .inl 52]) (rm := rm_X5_in) (c_X5_in l D cI cC td z1.1 48 52 z1.2) (cwS 3 hX.ts gX5_squareEnd_X5_in rfl rfl rfl (by decide +kernel) ⟨Nat.le_of_ble_eq_true rfl, Nat.le_of_ble_eq_true rfl⟩) rfl rfl rfl ⟨Nat.le_of_ble_eq_true rfl, Nat.le_of_ble_eq_true rfl⟩ dX5_squareEnd_15 rfl (fun z2 hz2 => ?_)
    refine ev_if_ne (tgt := 25) hX dX5_squareEnd_18 (by decide) ?_ ?_
    · refine ev_aload_n hX dX5_squareEnd_25 rfl ?_
      refine ev_iload_n hX dX5_squareEnd_26 rfl ?_
      refine ev_iconst hX dX5_squareEnd_27 (v := 1) (by decide +kernel) ?_
      refine ev_iadd hX dX5_squareEnd_28 ?_
      refine ev_callVi hX (k0 := 0) (As := [.inl (a1 + 1)]) (rm := rm_X5_sign) (c_X5_sign l D cI cC td (a1 + 1) z2.2) (cwV 1 hX.ts gX5_squareEnd_X5_sign rfl rfl rfl (by decide +kernel) ⟨Nat.le_of_ble_eq_true rfl, Nat.le_of_ble_eq_true rfl⟩) rfl rfl rfl rfl rfl rfl ⟨Nat.le_of_ble_eq_true rfl, Nat.le_of_ble_eq_true rfl⟩ dX5_squareEnd_29 rfl (fun z3 hz3 => ?_)
      refine ev_bipush hX dX5_squareEnd_32 (v := 48) (by decide +kernel) ?_
      refine ev_bipush hX dX5_squareEnd_34 (v := 52) (by decide +kernel) ?_
      refine ev_callSi hX (As := [.inl z3.1, .inl 48, .inl 52]) (rm := rm_X5_in) (c_X5_in l D cI cC td z3.1 48 52 z3.2) (cwS 3 hX.ts gX5_squareEnd_X5_in rfl rfl rfl (by decide +kernel) ⟨Nat.le_of_ble_eq_true rfl, Nat.le_of_ble_eq_true rfl⟩) rfl rfl rfl ⟨Nat.le_of_ble_eq_true rfl, Nat.le_of_ble_eq_true rfl⟩ dX5_squareEnd_36 rfl (fun z4 hz4 => ?_)
      refine ev_if_eq (tgt := 48) hX dX5_squareEnd_39 (by decide) ?_ ?_
      · refine ev_bipush hX dX5_squareEnd_48 (v := (-2)) (by decide +kernel) ?_
        refine ev_iload_n hX dX5_squareEnd_50 rfl ?_
        refine ev_isub hX dX5_squareEnd_51 ?_
        exact ev_ireti hX hr dX5_squareEnd_52
      · refine ev_iload_n hX dX5_squareEnd_42 rfl ?_
        refine ev_iconst hX dX5_squareEnd_43 (v := 2) (by decide +kernel) ?_
        refine ev_iadd hX dX5_squareEnd_44 ?_
        refine ev_goto (tgt := 52) hX dX5_squareEnd_45 (by decide) ?_
        exact ev_ireti hX hr dX5_squareEnd_52
    · refine ev_iconst hX dX5_squareEnd_21 (v := (-1)) (by decide +kernel) ?_
      refine ev_iload_n hX dX5_squareEnd_22 rfl ?_
      refine ev_isub hX dX5_squareEnd_23 ?_
      exact ev_ireti hX hr dX5_squareEnd_24
  · refine ev_iload_n hX dX5_squareEnd_4 rfl ?_
    exact ev_ireti hX hr dX5_squareEnd_5
def rm_X5_behind : Room := { frames := 1, cells := 0, slots := 0, locals := 21 }
set_option maxHeartbeats 4000000 in
set_option maxRecDepth 100000 in
theorem c_X5_behind (l : Launch) (D : va_G) (cI cC : ClassId) (td : Nat → Option Nat) (a1 : Int32) (a2 : Int32) (w : mvW) : ∀ z, f_X5_behind a1 a2 w = some z → mv_Ci l D vwCl cI cC tbX td yX5_behind wsX5_behind rm_X5_behind shM w [.inr (.inl 0), .inl a1, .inl a2] z := by
  refine mv_starti (own := RX5) rfl (by decide) rfl rfl (L0 := [some (.inr (.inl 0)), some (.inl a1), some (.inl a2)]) rfl (fun p e s m args below meth c A ad0 hX hr => ?_)
  rw [f_X5_behind]
  refine ev_iload_n hX dX5_behind_0 rfl ?_
  refine ev_if_ge (tgt := 8) hX dX5_behind_1 (by decide) ?_ ?_
  · refine ev_aload_n hX dX5_behind_8 rfl ?_
    refine ev_iload_n hX dX5_behind_9 rfl ?_
    refine ev_callVi hX (k0 := 0) (As := [.inl a1]) (rm := rm_X5_sign) (c_X5_sign l D cI cC td a1 w) (cwV 1 hX.ts gX5_behind_X5_sign rfl rfl rfl (by decide +kernel) ⟨Nat.le_of_ble_eq_true rfl, Nat.le_of_ble_eq_true rfl⟩) rfl rfl rfl rfl rfl rfl ⟨Nat.le_of_ble_eq_true rfl, Nat.le_of_ble_eq_true rfl⟩ dX5_behind_10 rfl (fun z1 hz1 => ?_)
    refine ev_iload_n hX dX5_behind_13 rfl ?_
    refine ev_icmp_ne (tgt := 23) hX dX5_behind_14 (by decide) ?_ ?_
    · refine ev_iconst hX dX5_behind_23 (v := (-1)) (by decide +kernel) ?_
      refine ev_iload_n hX dX5_behind_24 rfl ?_
      refine ev_isub hX dX5_behind_25 ?_
      exact ev_ireti hX hr dX5_behind_26
    · refine ev_iload_n hX dX5_behind_17 rfl ?_
      refine ev_iconst hX dX5_behind_18 (v := 1) (by decide +kernel) ?_
      refine ev_iadd hX dX5_behind_19 ?_
      refine ev_goto (tgt := 26) hX dX5_behind_20 (by decide) ?_
      exact ev_ireti hX hr dX5_behind_26
  · refine ev_iload_n hX dX5_behind_4 rfl ?_
    refine ev_goto (tgt := 26) hX dX5_behind_5 (by decide) ?_
    exact ev_ireti hX hr dX5_behind_26
def rm_X5_playEnd : Room := { frames := 2, cells := 0, slots := 0, locals := 43 }
set_option maxHeartbeats 4000000 in
set_option maxRecDepth 100000 in
theorem c_X5_playEnd (l : Launch) (D : va_G) (cI cC : ClassId) (td : Nat → Option Nat) (a1 : Int32) (w : mvW) : ∀ z, f_X5_playEnd a1 w = some z → mv_Ci l D vwCl cI cC tbX td yX5_playEnd wsX5_playEnd rm_X5_playEnd shM w [.inr (.inl 0), .inl a1] z := by
  refine mv_starti (own := RX5) rfl (by decide) rfl rfl (L0 := [some (.inr (.inl 0)), some (.inl a1), none]) rfl (fun p e s m args below meth c A ad0 hX hr => ?_)
  rw [f_X5_playEnd]
  refine ev_aload_n hX dX5_playEnd_0 rfl ?_
  refine ev_iload_n hX dX5_playEnd_1 rfl ?_
  refine ev_callVi hX (k0 := 0) (As := [.inl a1]) (rm := rm_X5_sign) (c_X5_sign l D cI cC td a1 w) (cwV 1 hX.ts gX5_playEnd_X5_sign rfl rfl rfl (by decide +kernel) ⟨Nat.le_of_ble_eq_true rfl, Nat.le_of_ble_eq_true rfl⟩) rfl rfl rfl rfl rfl rfl ⟨Nat.le_of_ble_eq_true rfl, Nat.le_of_ble_eq_true rfl⟩ dX5_playEnd_2 rfl (fun z1 hz1 => ?_)
  refine ev_callSi hX (As := [.inl z1.1]) (rm := rm_X5_kindOfLetter) (c_X5_kindOfLetter l D cI cC td z1.1 z1.2) (cwS 1 hX.ts gX5_playEnd_X5_kindOfLetter rfl rfl rfl (by decide +kernel) ⟨Nat.le_of_ble_eq_true rfl, Nat.le_of_ble_eq_true rfl⟩) rfl rfl rfl ⟨Nat.le_of_ble_eq_true rfl, Nat.le_of_ble_eq_true rfl⟩ dX5_playEnd_5 rfl (fun z2 hz2 => ?_)
  refine ev_if_le (tgt := 25) hX dX5_playEnd_8 (by decide) ?_ ?_
  · refine ev_aload_n hX dX5_playEnd_25 rfl ?_
    refine ev_aload_n hX dX5_playEnd_26 rfl ?_
    refine ev_aload_n hX dX5_playEnd_27 rfl ?_
    refine ev_iload_n hX dX5_playEnd_28 rfl ?_
    refine ev_callVi hX (k0 := 0) (As := [.inl a1]) (rm := rm_X5_squareEnd) (c_X5_squareEnd l D cI cC td a1 z2.2) (cwV 1 hX.ts gX5_playEnd_X5_squareEnd rfl rfl rfl (by decide +kernel) ⟨Nat.le_of_ble_eq_true rfl, Nat.le_of_ble_eq_true rfl⟩) rfl rfl rfl rfl rfl rfl ⟨Nat.le_of_ble_eq_true rfl, Nat.le_of_ble_eq_true rfl⟩ dX5_playEnd_29 rfl (fun z3 hz3 => ?_)
    refine ev_bipush hX dX5_playEnd_32 (v := 45) (by decide +kernel) ?_
    refine ev_callVi hX (k0 := 0) (As := [.inl z3.1, .inl 45]) (rm := rm_X5_behind) (c_X5_behind l D cI cC td z3.1 45 z3.2) (cwV 2 hX.ts gX5_playEnd_X5_behind rfl rfl rfl (by decide +kernel) ⟨Nat.le_of_ble_eq_true rfl, Nat.le_of_ble_eq_true rfl⟩) rfl rfl rfl rfl rfl rfl ⟨Nat.le_of_ble_eq_true rfl, Nat.le_of_ble_eq_true rfl⟩ dX5_playEnd_34 rfl (fun z4 hz4 => ?_)
    refine ev_callVi hX (k0 := 0) (As := [.inl z4.1]) (rm := rm_X5_squareEnd) (c_X5_squareEnd l D cI cC td z4.1 z4.2) (cwV 1 hX.ts gX5_playEnd_X5_squareEnd rfl rfl rfl (by decide +kernel) ⟨Nat.le_of_ble_eq_true rfl, Nat.le_of_ble_eq_true rfl⟩) rfl rfl rfl rfl rfl rfl ⟨Nat.le_of_ble_eq_true rfl, Nat.le_of_ble_eq_true rfl⟩ dX5_playEnd_37 rfl (fun z5 hz5 => ?_)
    refine ev_istore_n hX dX5_playEnd_40 rfl (L' := [some (.inr (.inl 0)), some (.inl a1), some (.inl z5.1)]) rfl ?_
    refine ev_iload_n hX dX5_playEnd_41 rfl ?_
    refine ev_if_le (tgt := 61) hX dX5_playEnd_42 (by decide) ?_ ?_
    · refine ev_iload_n hX dX5_playEnd_61 rfl ?_
      exact ev_ireti hX hr dX5_playEnd_62
    · refine ev_aload_n hX dX5_playEnd_45 rfl ?_
      refine ev_iload_n hX dX5_playEnd_46 rfl ?_
      refine ev_callVi hX (k0 := 0) (As := [.inl z5.1]) (rm := rm_X5_sign) (c_X5_sign l D cI cC td z5.1 z5.2) (cwV 1 hX.ts gX5_playEnd_X5_sign rfl rfl rfl (by decide +kernel) ⟨Nat.le_of_ble_eq_true rfl, Nat.le_of_ble_eq_true rfl⟩) rfl rfl rfl rfl rfl rfl ⟨Nat.le_of_ble_eq_true rfl, Nat.le_of_ble_eq_true rfl⟩ dX5_playEnd_47 rfl (fun z6 hz6 => ?_)
      refine ev_bipush hX dX5_playEnd_50 (v := 43) (by decide +kernel) ?_
      refine ev_icmp_ne (tgt := 61) hX dX5_playEnd_52 (by decide) ?_ ?_
      · refine ev_iload_n hX dX5_playEnd_61 rfl ?_
        exact ev_ireti hX hr dX5_playEnd_62
      · refine ev_iload_n hX dX5_playEnd_55 rfl ?_
        refine ev_iconst hX dX5_playEnd_56 (v := 1) (by decide +kernel) ?_
        refine ev_iadd hX dX5_playEnd_57 ?_
        refine ev_goto (tgt := 62) hX dX5_playEnd_58 (by decide) ?_
        exact ev_ireti hX hr dX5_playEnd_62
  · refine ev_aload_n hX dX5_playEnd_11 rfl ?_
    refine ev_aload_n hX dX5_playEnd_12 rfl ?_
    refine ev_iload_n hX dX5_playEnd_13 rfl ?_
    refine ev_iconst hX dX5_playEnd_14 (v := 1) (by decide +kernel) ?_
    refine ev_iadd hX dX5_playEnd_15 ?_
    refine ev_bipush hX dX5_playEnd_16 (v := 42) (by decide +kernel) ?_
    refine ev_callVi hX (k0 := 0) (As := [.inl (a1 + 1), .inl 42]) (rm := rm_X5_behind) (c_X5_behind l D cI cC td (a1 + 1) 42 z2.2) (cwV 2 hX.ts gX5_playEnd_X5_behind rfl rfl rfl (by decide +kernel) ⟨Nat.le_of_ble_eq_true rfl, Nat.le_of_ble_eq_true rfl⟩) rfl rfl rfl rfl rfl rfl ⟨Nat.le_of_ble_eq_true rfl, Nat.le_of_ble_eq_true rfl⟩ dX5_playEnd_18 rfl (fun z7 hz7 => ?_)
    refine ev_callVi hX (k0 := 0) (As := [.inl z7.1]) (rm := rm_X5_squareEnd) (c_X5_squareEnd l D cI cC td z7.1 z7.2) (cwV 1 hX.ts gX5_playEnd_X5_squareEnd rfl rfl rfl (by decide +kernel) ⟨Nat.le_of_ble_eq_true rfl, Nat.le_of_ble_eq_true rfl⟩) rfl rfl rfl rfl rfl rfl ⟨Nat.le_of_ble_eq_true rfl, Nat.le_of_ble_eq_true rfl⟩ dX5_playEnd_21 rfl (fun z8 hz8 => ?_)
    exact ev_ireti hX hr dX5_playEnd_24
def rm_X5_fault : Room := { frames := 3, cells := 0, slots := 0, locals := 65 }
set_option maxRecDepth 20000 in
theorem in_X5_fault_X5 : ∀ w ∈ u_ws RX5 TX5 8, w ∈ wsX5_fault := by decide +kernel
set_option maxHeartbeats 4000000 in
set_option maxRecDepth 100000 in
theorem e_X5_fault_4 (hX : mv_X p s m args meth c D vwCl cI cC tbX td A cX5_fault 4 RX5 wsX5_fault) (hr : meth.sig.returnType = (some .int)) : ∀ (n : Nat) (x1 : Int32) (x2 : Int32) (w : mvW), EV p l e (headSpec wsX5_fault rm_X5_fault).room s m args below meth c D vwCl cI cC td A (fun a => a = ad0) (mv_Qi below args s D vwCl cI cC shM ad0 A) 0 0 shM [some (.inr (.inl 0)), some (.inl x1), some (.inl x2), none] [] 4 w (f_X5_fault_4 n x1 x2 w) := by
  intro n
  induction n with
  | zero => intro x1 x2 w; exact ev_none
  | succ n ih =>
    intro x1 x2 w
    rw [f_X5_fault_4]
    refine ev_iload_n hX dX5_fault_4 rfl ?_
    refine ev_bipush hX dX5_fault_5 (v := 60) (by decide +kernel) ?_
    refine ev_icmp_ge (tgt := 58) hX dX5_fault_7 (by decide) ?_ ?_
    · refine ev_sipush hX dX5_fault_58 (v := (-1005)) (by decide +kernel) ?_
      exact ev_ireti hX hr dX5_fault_61
    · refine ev_aload_n hX dX5_fault_10 rfl ?_
      refine ev_iload_n hX dX5_fault_11 rfl ?_
      refine ev_callVi hX (k0 := 0) (As := [.inl x1]) (rm := rm_X5_playEnd) (c_X5_playEnd l D cI cC td x1 w) (cwV 1 hX.ts gX5_fault_X5_playEnd rfl rfl rfl (by decide +kernel) ⟨Nat.le_of_ble_eq_true rfl, Nat.le_of_ble_eq_true rfl⟩) rfl rfl rfl rfl rfl rfl ⟨Nat.le_of_ble_eq_true rfl, Nat.le_of_ble_eq_true rfl⟩ dX5_fault_12 rfl (fun z1 hz1 => ?_)
      refine ev_istore_n hX dX5_fault_15 rfl (L' := [some (.inr (.inl 0)), some (.inl x1), some (.inl x2), some (.inl z1.1)]) rfl ?_
      refine ev_iload_n hX dX5_fault_16 rfl ?_
      refine ev_if_ge (tgt := 24) hX dX5_fault_17 (by decide) ?_ ?_
      · refine ev_iload_n hX dX5_fault_24 rfl ?_
        refine ev_aload_n hX dX5_fault_25 rfl ?_
        refine ev_get (k := 7) hX (T := TX5) in_X5_fault_X5 rfl rfl rfl (show Cond.fieldLink RX5 132 "FiveShogiModel" "length" "I" ∈ _ by decide +kernel) rfl dX5_fault_26 ?_
        refine ev_icmp_ne (tgt := 36) hX dX5_fault_29 (by decide) ?_ ?_
        · refine ev_aload_n hX dX5_fault_36 rfl ?_
          refine ev_iload_n hX dX5_fault_37 rfl ?_
          refine ev_callVi hX (k0 := 0) (As := [.inl z1.1]) (rm := rm_X5_sign) (c_X5_sign l D cI cC td z1.1 z1.2) (cwV 1 hX.ts gX5_fault_X5_sign rfl rfl rfl (by decide +kernel) ⟨Nat.le_of_ble_eq_true rfl, Nat.le_of_ble_eq_true rfl⟩) rfl rfl rfl rfl rfl rfl ⟨Nat.le_of_ble_eq_true rfl, Nat.le_of_ble_eq_true rfl⟩ dX5_fault_38 rfl (fun z2 hz2 => ?_)
          refine ev_bipush hX dX5_fault_41 (v := 59) (by decide +kernel) ?_
          refine ev_icmp_eq (tgt := 48) hX dX5_fault_43 (by decide) ?_ ?_
          · refine ev_iload_n hX dX5_fault_48 rfl ?_
            refine ev_iconst hX dX5_fault_49 (v := 1) (by decide +kernel) ?_
            refine ev_iadd hX dX5_fault_50 ?_
            refine ev_istore_n hX dX5_fault_51 rfl (L' := [some (.inr (.inl 0)), some (.inl (z1.1 + 1)), some (.inl x2), some (.inl z1.1)]) rfl ?_
            refine ev_iinc hX dX5_fault_52 rfl (v := 1) (by decide +kernel) (L' := [some (.inr (.inl 0)), some (.inl (z1.1 + 1)), some (.inl (x2 + 1)), some (.inl z1.1)]) rfl ?_
            refine ev_goto (tgt := 4) hX dX5_fault_55 (by decide) ?_
            refine ev_mask [true, true, true, false] (L' := [some (.inr (.inl 0)), some (.inl (z1.1 + 1)), some (.inl (x2 + 1)), none]) rfl rfl ?_
            exact ih (z1.1 + 1) (x2 + 1) z2.2
          · refine ev_iload_n hX dX5_fault_46 rfl ?_
            exact ev_ireti hX hr dX5_fault_47
        · refine ev_sipush hX dX5_fault_32 (v := (-1005)) (by decide +kernel) ?_
          exact ev_ireti hX hr dX5_fault_35
      · refine ev_iconst hX dX5_fault_20 (v := (-1)) (by decide +kernel) ?_
        refine ev_iload_n hX dX5_fault_21 rfl ?_
        refine ev_isub hX dX5_fault_22 ?_
        exact ev_ireti hX hr dX5_fault_23
set_option maxHeartbeats 4000000 in
set_option maxRecDepth 100000 in
theorem c_X5_fault (l : Launch) (D : va_G) (cI cC : ClassId) (td : Nat → Option Nat) (w : mvW) : ∀ z, f_X5_fault w = some z → mv_Ci l D vwCl cI cC tbX td yX5_fault wsX5_fault rm_X5_fault shM w [.inr (.inl 0)] z := by
  refine mv_starti (own := RX5) rfl (by decide) rfl rfl (L0 := [some (.inr (.inl 0)), none, none, none]) rfl (fun p e s m args below meth c A ad0 hX hr => ?_)
  rw [f_X5_fault]
  refine ev_iconst hX dX5_fault_0 (v := 0) (by decide +kernel) ?_
  refine ev_istore_n hX dX5_fault_1 rfl (L' := [some (.inr (.inl 0)), some (.inl 0), none, none]) rfl ?_
  refine ev_iconst hX dX5_fault_2 (v := 0) (by decide +kernel) ?_
  refine ev_istore_n hX dX5_fault_3 rfl (L' := [some (.inr (.inl 0)), some (.inl 0), some (.inl 0), none]) rfl ?_
  refine ev_mask [true, true, true, false] (L' := [some (.inr (.inl 0)), some (.inl 0), some (.inl 0), none]) rfl rfl ?_
  exact e_X5_fault_4 hX hr 4096 0 0 w
def rm_X5_squareIn : Room := { frames := 1, cells := 0, slots := 0, locals := 21 }
set_option maxHeartbeats 4000000 in
set_option maxRecDepth 100000 in
theorem c_X5_squareIn (l : Launch) (D : va_G) (cI cC : ClassId) (td : Nat → Option Nat) (a1 : Int32) (w : mvW) : ∀ z, f_X5_squareIn a1 w = some z → mv_Ci l D vwCl cI cC tbX td yX5_squareIn wsX5_squareIn rm_X5_squareIn shM w [.inr (.inl 0), .inl a1] z := by
  refine mv_starti (own := RX5) rfl (by decide) rfl rfl (L0 := [some (.inr (.inl 0)), some (.inl a1)]) rfl (fun p e s m args below meth c A ad0 hX hr => ?_)
  rw [f_X5_squareIn]
  refine ev_iconst hX dX5_squareIn_0 (v := 5) (by decide +kernel) ?_
  refine ev_aload_n hX dX5_squareIn_1 rfl ?_
  refine ev_iload_n hX dX5_squareIn_2 rfl ?_
  refine ev_callVi hX (k0 := 0) (As := [.inl a1]) (rm := rm_X5_sign) (c_X5_sign l D cI cC td a1 w) (cwV 1 hX.ts gX5_squareIn_X5_sign rfl rfl rfl (by decide +kernel) ⟨Nat.le_of_ble_eq_true rfl, Nat.le_of_ble_eq_true rfl⟩) rfl rfl rfl rfl rfl rfl ⟨Nat.le_of_ble_eq_true rfl, Nat.le_of_ble_eq_true rfl⟩ dX5_squareIn_3 rfl (fun z1 hz1 => ?_)
  refine ev_bipush hX dX5_squareIn_6 (v := 48) (by decide +kernel) ?_
  refine ev_isub hX dX5_squareIn_8 ?_
  refine ev_imul hX dX5_squareIn_9 ?_
  refine ev_aload_n hX dX5_squareIn_10 rfl ?_
  refine ev_iload_n hX dX5_squareIn_11 rfl ?_
  refine ev_iconst hX dX5_squareIn_12 (v := 1) (by decide +kernel) ?_
  refine ev_iadd hX dX5_squareIn_13 ?_
  refine ev_callVi hX (k0 := 0) (As := [.inl (a1 + 1)]) (rm := rm_X5_sign) (c_X5_sign l D cI cC td (a1 + 1) z1.2) (cwV 1 hX.ts gX5_squareIn_X5_sign rfl rfl rfl (by decide +kernel) ⟨Nat.le_of_ble_eq_true rfl, Nat.le_of_ble_eq_true rfl⟩) rfl rfl rfl rfl rfl rfl ⟨Nat.le_of_ble_eq_true rfl, Nat.le_of_ble_eq_true rfl⟩ dX5_squareIn_14 rfl (fun z2 hz2 => ?_)
  refine ev_iadd hX dX5_squareIn_17 ?_
  refine ev_bipush hX dX5_squareIn_18 (v := 48) (by decide +kernel) ?_
  refine ev_isub hX dX5_squareIn_20 ?_
  exact ev_ireti hX hr dX5_squareIn_21
def rm_X5_codeIn : Room := { frames := 2, cells := 0, slots := 0, locals := 42 }
set_option maxHeartbeats 4000000 in
set_option maxRecDepth 100000 in
theorem e_X5_codeIn_51 (hX : mv_X p s m args meth c D vwCl cI cC tbX td A cX5_codeIn 3 RX5 wsX5_codeIn) (hr : meth.sig.returnType = (some .int)) (x1 : Int32) (s0 : Int32) (w : mvW) : EV p l e (headSpec wsX5_codeIn rm_X5_codeIn).room s m args below meth c D vwCl cI cC td A (fun a => a = ad0) (mv_Qi below args s D vwCl cI cC shM ad0 A) 0 0 shM [some (.inr (.inl 0)), some (.inl x1), none] [.inl s0] 51 w (f_X5_codeIn_51 x1 s0 w) := by
  rw [f_X5_codeIn_51]
  refine ev_bipush hX dX5_codeIn_51 (v := 25) (by decide +kernel) ?_
  refine ev_aload_n hX dX5_codeIn_53 rfl ?_
  refine ev_iload_n hX dX5_codeIn_54 rfl ?_
  refine ev_callVi hX (k0 := 0) (As := [.inl x1]) (rm := rm_X5_squareIn) (c_X5_squareIn l D cI cC td x1 w) (cwV 1 hX.ts gX5_codeIn_X5_squareIn rfl rfl rfl (by decide +kernel) ⟨Nat.le_of_ble_eq_true rfl, Nat.le_of_ble_eq_true rfl⟩) rfl rfl rfl rfl rfl rfl ⟨Nat.le_of_ble_eq_true rfl, Nat.le_of_ble_eq_true rfl⟩ dX5_codeIn_55 rfl (fun z5 hz5 => ?_)
  refine ev_imul hX dX5_codeIn_58 ?_
  refine ev_iadd hX dX5_codeIn_59 ?_
  refine ev_aload_n hX dX5_codeIn_60 rfl ?_
  refine ev_iload_n hX dX5_codeIn_61 rfl ?_
  refine ev_iconst hX dX5_codeIn_62 (v := 3) (by decide +kernel) ?_
  refine ev_iadd hX dX5_codeIn_63 ?_
  refine ev_callVi hX (k0 := 0) (As := [.inl (x1 + 3)]) (rm := rm_X5_squareIn) (c_X5_squareIn l D cI cC td (x1 + 3) z5.2) (cwV 1 hX.ts gX5_codeIn_X5_squareIn rfl rfl rfl (by decide +kernel) ⟨Nat.le_of_ble_eq_true rfl, Nat.le_of_ble_eq_true rfl⟩) rfl rfl rfl rfl rfl rfl ⟨Nat.le_of_ble_eq_true rfl, Nat.le_of_ble_eq_true rfl⟩ dX5_codeIn_64 rfl (fun z6 hz6 => ?_)
  refine ev_iadd hX dX5_codeIn_67 ?_
  exact ev_ireti hX hr dX5_codeIn_68
set_option maxHeartbeats 4000000 in
set_option maxRecDepth 100000 in
theorem c_X5_codeIn (l : Launch) (D : va_G) (cI cC : ClassId) (td : Nat → Option Nat) (a1 : Int32) (w : mvW) : ∀ z, f_X5_codeIn a1 w = some z → mv_Ci l D vwCl cI cC tbX td yX5_codeIn wsX5_codeIn rm_X5_codeIn shM w [.inr (.inl 0), .inl a1] z := by
  refine mv_starti (own := RX5) rfl (by decide) rfl rfl (L0 := [some (.inr (.inl 0)), some (.inl a1), none]) rfl (fun p e s m args below meth c A ad0 hX hr => ?_)
  rw [f_X5_codeIn]
  refine ev_aload_n hX dX5_codeIn_0 rfl ?_
  refine ev_iload_n hX dX5_codeIn_1 rfl ?_
  refine ev_callVi hX (k0 := 0) (As := [.inl a1]) (rm := rm_X5_sign) (c_X5_sign l D cI cC td a1 w) (cwV 1 hX.ts gX5_codeIn_X5_sign rfl rfl rfl (by decide +kernel) ⟨Nat.le_of_ble_eq_true rfl, Nat.le_of_ble_eq_true rfl⟩) rfl rfl rfl rfl rfl rfl ⟨Nat.le_of_ble_eq_true rfl, Nat.le_of_ble_eq_true rfl⟩ dX5_codeIn_2 rfl (fun z1 hz1 => ?_)
  refine ev_callSi hX (As := [.inl z1.1]) (rm := rm_X5_kindOfLetter) (c_X5_kindOfLetter l D cI cC td z1.1 z1.2) (cwS 1 hX.ts gX5_codeIn_X5_kindOfLetter rfl rfl rfl (by decide +kernel) ⟨Nat.le_of_ble_eq_true rfl, Nat.le_of_ble_eq_true rfl⟩) rfl rfl rfl ⟨Nat.le_of_ble_eq_true rfl, Nat.le_of_ble_eq_true rfl⟩ dX5_codeIn_5 rfl (fun z2 hz2 => ?_)
  refine ev_istore_n hX dX5_codeIn_8 rfl (L' := [some (.inr (.inl 0)), some (.inl a1), some (.inl z2.1)]) rfl ?_
  refine ev_iload_n hX dX5_codeIn_9 rfl ?_
  refine ev_if_le (tgt := 32) hX dX5_codeIn_10 (by decide) ?_ ?_
  · refine ev_aload_n hX dX5_codeIn_32 rfl ?_
    refine ev_iload_n hX dX5_codeIn_33 rfl ?_
    refine ev_iconst hX dX5_codeIn_34 (v := 5) (by decide +kernel) ?_
    refine ev_iadd hX dX5_codeIn_35 ?_
    refine ev_callVi hX (k0 := 0) (As := [.inl (a1 + 5)]) (rm := rm_X5_sign) (c_X5_sign l D cI cC td (a1 + 5) z2.2) (cwV 1 hX.ts gX5_codeIn_X5_sign rfl rfl rfl (by decide +kernel) ⟨Nat.le_of_ble_eq_true rfl, Nat.le_of_ble_eq_true rfl⟩) rfl rfl rfl rfl rfl rfl ⟨Nat.le_of_ble_eq_true rfl, Nat.le_of_ble_eq_true rfl⟩ dX5_codeIn_36 rfl (fun z3 hz3 => ?_)
    refine ev_bipush hX dX5_codeIn_39 (v := 43) (by decide +kernel) ?_
    refine ev_icmp_ne (tgt := 50) hX dX5_codeIn_41 (by decide) ?_ ?_
    · refine ev_iconst hX dX5_codeIn_50 (v := 0) (by decide +kernel) ?_
      refine ev_mask [true, true, false] (L' := [some (.inr (.inl 0)), some (.inl a1), none]) rfl rfl ?_
      exact e_X5_codeIn_51 hX hr a1 0 z3.2
    · refine ev_sipush hX dX5_codeIn_44 (v := 625) (by decide +kernel) ?_
      refine ev_goto (tgt := 51) hX dX5_codeIn_47 (by decide) ?_
      refine ev_mask [true, true, false] (L' := [some (.inr (.inl 0)), some (.inl a1), none]) rfl rfl ?_
      exact e_X5_codeIn_51 hX hr a1 625 z3.2
  · refine ev_sipush hX dX5_codeIn_13 (v := 1250) (by decide +kernel) ?_
    refine ev_bipush hX dX5_codeIn_16 (v := 25) (by decide +kernel) ?_
    refine ev_iload_n hX dX5_codeIn_18 rfl ?_
    refine ev_iconst hX dX5_codeIn_19 (v := 1) (by decide +kernel) ?_
    refine ev_isub hX dX5_codeIn_20 ?_
    refine ev_imul hX dX5_codeIn_21 ?_
    refine ev_iadd hX dX5_codeIn_22 ?_
    refine ev_aload_n hX dX5_codeIn_23 rfl ?_
    refine ev_iload_n hX dX5_codeIn_24 rfl ?_
    refine ev_iconst hX dX5_codeIn_25 (v := 2) (by decide +kernel) ?_
    refine ev_iadd hX dX5_codeIn_26 ?_
    refine ev_callVi hX (k0 := 0) (As := [.inl (a1 + 2)]) (rm := rm_X5_squareIn) (c_X5_squareIn l D cI cC td (a1 + 2) z2.2) (cwV 1 hX.ts gX5_codeIn_X5_squareIn rfl rfl rfl (by decide +kernel) ⟨Nat.le_of_ble_eq_true rfl, Nat.le_of_ble_eq_true rfl⟩) rfl rfl rfl rfl rfl rfl ⟨Nat.le_of_ble_eq_true rfl, Nat.le_of_ble_eq_true rfl⟩ dX5_codeIn_27 rfl (fun z4 hz4 => ?_)
    refine ev_iadd hX dX5_codeIn_30 ?_
    exact ev_ireti hX hr dX5_codeIn_31
def rm_X5_exchanges : Room := { frames := 0, cells := 0, slots := 0, locals := 0 }
set_option maxRecDepth 20000 in
theorem in_X5_exchanges_X5 : ∀ w ∈ u_ws RX5 TX5 8, w ∈ wsX5_exchanges := by decide +kernel
set_option maxHeartbeats 4000000 in
set_option maxRecDepth 100000 in
theorem e_X5_exchanges_2 (hX : mv_X p s m args meth c D vwCl cI cC tbX td A cX5_exchanges 3 RX5 wsX5_exchanges) (hr : meth.sig.returnType = none) : ∀ (n : Nat) (x1 : Int32) (w : mvW), EV p l e (headSpec wsX5_exchanges rm_X5_exchanges).room s m args below meth c D vwCl cI cC td A (fun a => a = ad0) (mv_Qv below args s D vwCl cI cC shM ad0 A) 0 0 shM [some (.inr (.inl 0)), some (.inl x1), none] [] 2 w (f_X5_exchanges_2 n x1 w) := by
  intro n
  induction n with
  | zero => intro x1 w; exact ev_none
  | succ n ih =>
    intro x1 w
    rw [f_X5_exchanges_2]
    refine ev_iload_n hX dX5_exchanges_2 rfl ?_
    refine ev_bipush hX dX5_exchanges_3 (v := 40) (by decide +kernel) ?_
    refine ev_icmp_ge (tgt := 40) hX dX5_exchanges_5 (by decide) ?_ ?_
    · exact ev_vret hX hr dX5_exchanges_40
    · refine ev_aload_n hX dX5_exchanges_8 rfl ?_
      refine ev_getr (k := 0) hX (T := TX5) in_X5_exchanges_X5 rfl rfl rfl (show Cond.fieldLink RX5 7 "FiveShogiModel" "s" "[I" ∈ _ by decide +kernel) rfl dX5_exchanges_9 ?_
      refine ev_iload_n hX dX5_exchanges_12 rfl ?_
      refine ev_iald hX rfl dX5_exchanges_13 (fun j1 => ?_)
      refine ev_istore_n hX dX5_exchanges_14 rfl (L' := [some (.inr (.inl 0)), some (.inl x1), some (.inl (w 1 j1))]) rfl ?_
      refine ev_aload_n hX dX5_exchanges_15 rfl ?_
      refine ev_getr (k := 0) hX (T := TX5) in_X5_exchanges_X5 rfl rfl rfl (show Cond.fieldLink RX5 7 "FiveShogiModel" "s" "[I" ∈ _ by decide +kernel) rfl dX5_exchanges_16 ?_
      refine ev_iload_n hX dX5_exchanges_19 rfl ?_
      refine ev_aload_n hX dX5_exchanges_20 rfl ?_
      refine ev_getr (k := 1) hX (T := TX5) in_X5_exchanges_X5 rfl rfl rfl (show Cond.fieldLink RX5 13 "FiveShogiModel" "held" "[I" ∈ _ by decide +kernel) rfl dX5_exchanges_21 ?_
      refine ev_iload_n hX dX5_exchanges_24 rfl ?_
      refine ev_iald hX rfl dX5_exchanges_25 (fun j2 => ?_)
      refine ev_iast hX rfl dX5_exchanges_26 (fun j3 => ?_)
      refine ev_aload_n hX dX5_exchanges_27 rfl ?_
      refine ev_getr (k := 1) hX (T := TX5) in_X5_exchanges_X5 rfl rfl rfl (show Cond.fieldLink RX5 13 "FiveShogiModel" "held" "[I" ∈ _ by decide +kernel) rfl dX5_exchanges_28 ?_
      refine ev_iload_n hX dX5_exchanges_31 rfl ?_
      refine ev_iload_n hX dX5_exchanges_32 rfl ?_
      refine ev_iast hX rfl dX5_exchanges_33 (fun j4 => ?_)
      refine ev_iinc hX dX5_exchanges_34 rfl (v := 1) (by decide +kernel) (L' := [some (.inr (.inl 0)), some (.inl (x1 + 1)), some (.inl (w 1 j1))]) rfl ?_
      refine ev_goto (tgt := 2) hX dX5_exchanges_37 (by decide) ?_
      refine ev_mask [true, true, false] (L' := [some (.inr (.inl 0)), some (.inl (x1 + 1)), none]) rfl rfl ?_
      exact ih (x1 + 1) (mv_up (mv_up w 1 j3 (w 2 j2)) 2 j4 (w 1 j1))
set_option maxHeartbeats 4000000 in
set_option maxRecDepth 100000 in
theorem c_X5_exchanges (l : Launch) (D : va_G) (cI cC : ClassId) (td : Nat → Option Nat) (w : mvW) : ∀ z, f_X5_exchanges w = some z → mv_Cv l D vwCl cI cC tbX td yX5_exchanges wsX5_exchanges rm_X5_exchanges shM w [.inr (.inl 0)] z := by
  refine mv_startv (own := RX5) rfl (by decide) rfl rfl (L0 := [some (.inr (.inl 0)), none, none]) rfl (fun p e s m args below meth c A ad0 hX hr => ?_)
  rw [f_X5_exchanges]
  refine ev_iconst hX dX5_exchanges_0 (v := 0) (by decide +kernel) ?_
  refine ev_istore_n hX dX5_exchanges_1 rfl (L' := [some (.inr (.inl 0)), some (.inl 0), none]) rfl ?_
  refine ev_mask [true, true, false] (L' := [some (.inr (.inl 0)), some (.inl 0), none]) rfl rfl ?_
  exact e_X5_exchanges_2 hX hr 4096 0 w
def rm_X5_perform : Room := { frames := 7, cells := 0, slots := 0, locals := 175 }
set_option maxRecDepth 20000 in
theorem in_X5_perform_X5 : ∀ w ∈ u_ws RX5 TX5 8, w ∈ wsX5_perform := by decide +kernel
set_option maxHeartbeats 4000000 in
set_option maxRecDepth 100000 in
theorem e_X5_perform_120 (hX : mv_X p s m args meth c D vwCl cI cC tbX td A cX5_perform 7 RX5 wsX5_perform) (hr : meth.sig.returnType = (some .int)) (x2 : Int32) (x4 : Int32) (w : mvW) : EV p l e (headSpec wsX5_perform rm_X5_perform).room s m args below meth c D vwCl cI cC td A (fun a => a = ad0) (mv_Qi below args s D vwCl cI cC shM ad0 A) 0 0 shM [some (.inr (.inl 0)), none, some (.inl x2), none, some (.inl x4), none, none] [] 120 w (f_X5_perform_120 x2 x4 w) := by
  rw [f_X5_perform_120]
  refine ev_iload hX dX5_perform_120 rfl ?_
  refine ev_if_eq (tgt := 140) hX dX5_perform_122 (by decide) ?_ ?_
  · refine ev_aload_n hX dX5_perform_140 rfl ?_
    refine ev_callVv hX (k0 := 0) (As := []) (rm := rm_X5_exchanges) (c_X5_exchanges l D cI cC td w) (cwV 0 hX.ts gX5_perform_X5_exchanges rfl rfl rfl (by decide +kernel) ⟨Nat.le_of_ble_eq_true rfl, Nat.le_of_ble_eq_true rfl⟩) rfl rfl rfl rfl rfl rfl ⟨Nat.le_of_ble_eq_true rfl, Nat.le_of_ble_eq_true rfl⟩ dX5_perform_141 rfl (fun z6 hz6 => ?_)
    refine ev_iload hX dX5_perform_144 rfl ?_
    refine ev_if_eq (tgt := 153) hX dX5_perform_146 (by decide) ?_ ?_
    · refine ev_sipush hX dX5_perform_153 (v := (-1004)) (by decide +kernel) ?_
      exact ev_ireti hX hr dX5_perform_156
    · refine ev_iload_n hX dX5_perform_149 rfl ?_
      refine ev_goto (tgt := 156) hX dX5_perform_150 (by decide) ?_
      exact ev_ireti hX hr dX5_perform_156
  · refine ev_aload_n hX dX5_perform_125 rfl ?_
    refine ev_callVv hX (k0 := 0) (As := []) (rm := rm_X5_exchanges) (c_X5_exchanges l D cI cC td w) (cwV 0 hX.ts gX5_perform_X5_exchanges rfl rfl rfl (by decide +kernel) ⟨Nat.le_of_ble_eq_true rfl, Nat.le_of_ble_eq_true rfl⟩) rfl rfl rfl rfl rfl rfl ⟨Nat.le_of_ble_eq_true rfl, Nat.le_of_ble_eq_true rfl⟩ dX5_perform_126 rfl (fun z7 hz7 => ?_)
    refine ev_aload_n hX dX5_perform_129 rfl ?_
    refine ev_callVv hX (k0 := 0) (As := []) (rm := rm_X5_remembers) (c_X5_remembers l D cI cC td z7) (cwV 0 hX.ts gX5_perform_X5_remembers rfl rfl rfl (by decide +kernel) ⟨Nat.le_of_ble_eq_true rfl, Nat.le_of_ble_eq_true rfl⟩) rfl rfl rfl rfl rfl rfl ⟨Nat.le_of_ble_eq_true rfl, Nat.le_of_ble_eq_true rfl⟩ dX5_perform_130 rfl (fun z8 hz8 => ?_)
    refine ev_aload_n hX dX5_perform_133 rfl ?_
    refine ev_callVv hX (k0 := 0) (As := []) (rm := rm_X5_exchanges) (c_X5_exchanges l D cI cC td z8) (cwV 0 hX.ts gX5_perform_X5_exchanges rfl rfl rfl (by decide +kernel) ⟨Nat.le_of_ble_eq_true rfl, Nat.le_of_ble_eq_true rfl⟩) rfl rfl rfl rfl rfl rfl ⟨Nat.le_of_ble_eq_true rfl, Nat.le_of_ble_eq_true rfl⟩ dX5_perform_134 rfl (fun z9 hz9 => ?_)
    refine ev_goto (tgt := 144) hX dX5_perform_137 (by decide) ?_
    refine ev_iload hX dX5_perform_144 rfl ?_
    refine ev_if_eq (tgt := 153) hX dX5_perform_146 (by decide) ?_ ?_
    · refine ev_sipush hX dX5_perform_153 (v := (-1004)) (by decide +kernel) ?_
      exact ev_ireti hX hr dX5_perform_156
    · refine ev_iload_n hX dX5_perform_149 rfl ?_
      refine ev_goto (tgt := 156) hX dX5_perform_150 (by decide) ?_
      exact ev_ireti hX hr dX5_perform_156
set_option maxHeartbeats 4000000 in
set_option maxRecDepth 100000 in
theorem e_X5_perform_104 (hX : mv_X p s m args meth c D vwCl cI cC tbX td A cX5_perform 7 RX5 wsX5_perform) (hr : meth.sig.returnType = (some .int)) (k51 : Int32 → Int32 → Int32 → mvW → Option (Int32 × mvW)) (hk51 : ∀ (x2 : Int32) (x3 : Int32) (x4 : Int32) (w : mvW), EV p l e (headSpec wsX5_perform rm_X5_perform).room s m args below meth c D vwCl cI cC td A (fun a => a = ad0) (mv_Qi below args s D vwCl cI cC shM ad0 A) 0 0 shM [some (.inr (.inl 0)), none, some (.inl x2), some (.inl x3), some (.inl x4), none, none] [] 51 w (k51 x2 x3 x4 w)) (x2 : Int32) (x3 : Int32) (x4 : Int32) (s0 : Int32) (w : mvW) : EV p l e (headSpec wsX5_perform rm_X5_perform).room s m args below meth c D vwCl cI cC td A (fun a => a = ad0) (mv_Qi below args s D vwCl cI cC shM ad0 A) 0 0 shM [some (.inr (.inl 0)), none, some (.inl x2), some (.inl x3), some (.inl x4), none, none] [.inl s0] 104 w (f_X5_perform_104 k51 x2 x3 x4 s0 w) := by
  rw [f_X5_perform_104]
  refine ev_istore hX dX5_perform_104 rfl (L' := [some (.inr (.inl 0)), none, some (.inl x2), some (.inl x3), some (.inl x4), none, some (.inl s0)]) rfl ?_
  refine ev_iinc hX dX5_perform_106 rfl (v := 1) (by decide +kernel) (L' := [some (.inr (.inl 0)), none, some (.inl (x2 + 1)), some (.inl x3), some (.inl x4), none, some (.inl s0)]) rfl ?_
  refine ev_aload_n hX dX5_perform_109 rfl ?_
  refine ev_iload_n hX dX5_perform_110 rfl ?_
  refine ev_callVi hX (k0 := 0) (As := [.inl x3]) (rm := rm_X5_playEnd) (c_X5_playEnd l D cI cC td x3 w) (cwV 1 hX.ts gX5_perform_X5_playEnd rfl rfl rfl (by decide +kernel) ⟨Nat.le_of_ble_eq_true rfl, Nat.le_of_ble_eq_true rfl⟩) rfl rfl rfl rfl rfl rfl ⟨Nat.le_of_ble_eq_true rfl, Nat.le_of_ble_eq_true rfl⟩ dX5_perform_111 rfl (fun z11 hz11 => ?_)
  refine ev_iconst hX dX5_perform_114 (v := 1) (by decide +kernel) ?_
  refine ev_iadd hX dX5_perform_115 ?_
  refine ev_istore_n hX dX5_perform_116 rfl (L' := [some (.inr (.inl 0)), none, some (.inl (x2 + 1)), some (.inl (z11.1 + 1)), some (.inl x4), none, some (.inl s0)]) rfl ?_
  refine ev_goto (tgt := 51) hX dX5_perform_117 (by decide) ?_
  refine ev_mask [true, false, true, true, true, false, false] (L' := [some (.inr (.inl 0)), none, some (.inl (x2 + 1)), some (.inl (z11.1 + 1)), some (.inl x4), none, none]) rfl rfl ?_
  exact hk51 (x2 + 1) (z11.1 + 1) x4 z11.2
set_option maxHeartbeats 4000000 in
set_option maxRecDepth 100000 in
theorem e_X5_perform_86 (hX : mv_X p s m args meth c D vwCl cI cC tbX td A cX5_perform 7 RX5 wsX5_perform) (hr : meth.sig.returnType = (some .int)) (k51 : Int32 → Int32 → Int32 → mvW → Option (Int32 × mvW)) (hk51 : ∀ (x2 : Int32) (x3 : Int32) (x4 : Int32) (w : mvW), EV p l e (headSpec wsX5_perform rm_X5_perform).room s m args below meth c D vwCl cI cC td A (fun a => a = ad0) (mv_Qi below args s D vwCl cI cC shM ad0 A) 0 0 shM [some (.inr (.inl 0)), none, some (.inl x2), some (.inl x3), some (.inl x4), none, none] [] 51 w (k51 x2 x3 x4 w)) (x2 : Int32) (x3 : Int32) (x5 : Int32) (s0 : Int32) (w : mvW) : EV p l e (headSpec wsX5_perform rm_X5_perform).room s m args below meth c D vwCl cI cC td A (fun a => a = ad0) (mv_Qi below args s D vwCl cI cC shM ad0 A) 0 0 shM [some (.inr (.inl 0)), none, some (.inl x2), some (.inl x3), none, some (.inl x5), none] [.inl s0] 86 w (f_X5_perform_86 k51 x2 x3 x5 s0 w) := by
  rw [f_X5_perform_86]
  refine ev_istore hX dX5_perform_86 rfl (L' := [some (.inr (.inl 0)), none, some (.inl x2), some (.inl x3), some (.inl s0), some (.inl x5), none]) rfl ?_
  refine ev_iload hX dX5_perform_88 rfl ?_
  refine ev_if_eq (tgt := 103) hX dX5_perform_90 (by decide) ?_ ?_
  · refine ev_iconst hX dX5_perform_103 (v := (-1)) (by decide +kernel) ?_
    refine ev_mask [true, false, true, true, true, false, false] (L' := [some (.inr (.inl 0)), none, some (.inl x2), some (.inl x3), some (.inl s0), none, none]) rfl rfl ?_
    exact e_X5_perform_104 hX hr k51 hk51 x2 x3 s0 (-1) w
  · refine ev_aload_n hX dX5_perform_93 rfl ?_
    refine ev_iconst hX dX5_perform_94 (v := 0) (by decide +kernel) ?_
    refine ev_iload hX dX5_perform_95 rfl ?_
    refine ev_callVi hX (k0 := 0) (As := [.inl 0, .inl x5]) (rm := rm_X5_makes) (c_X5_makes l D cI cC td 0 x5 w) (cwV 2 hX.ts gX5_perform_X5_makes rfl rfl rfl (by decide +kernel) ⟨Nat.le_of_ble_eq_true rfl, Nat.le_of_ble_eq_true rfl⟩) rfl rfl rfl rfl rfl rfl ⟨Nat.le_of_ble_eq_true rfl, Nat.le_of_ble_eq_true rfl⟩ dX5_perform_97 rfl (fun z10 hz10 => ?_)
    refine ev_goto (tgt := 104) hX dX5_perform_100 (by decide) ?_
    refine ev_mask [true, false, true, true, true, false, false] (L' := [some (.inr (.inl 0)), none, some (.inl x2), some (.inl x3), some (.inl s0), none, none]) rfl rfl ?_
    exact e_X5_perform_104 hX hr k51 hk51 x2 x3 s0 z10.1 z10.2
set_option maxHeartbeats 4000000 in
set_option maxRecDepth 100000 in
theorem e_X5_perform_51 (hX : mv_X p s m args meth c D vwCl cI cC tbX td A cX5_perform 7 RX5 wsX5_perform) (hr : meth.sig.returnType = (some .int)) : ∀ (n : Nat) (x2 : Int32) (x3 : Int32) (x4 : Int32) (w : mvW), EV p l e (headSpec wsX5_perform rm_X5_perform).room s m args below meth c D vwCl cI cC td A (fun a => a = ad0) (mv_Qi below args s D vwCl cI cC shM ad0 A) 0 0 shM [some (.inr (.inl 0)), none, some (.inl x2), some (.inl x3), some (.inl x4), none, none] [] 51 w (f_X5_perform_51 n x2 x3 x4 w) := by
  intro n
  induction n with
  | zero => intro x2 x3 x4 w; exact ev_none
  | succ n ih =>
    intro x2 x3 x4 w
    rw [f_X5_perform_51]
    refine ev_iload_n hX dX5_perform_51 rfl ?_
    refine ev_aload_n hX dX5_perform_52 rfl ?_
    refine ev_get (k := 7) hX (T := TX5) in_X5_perform_X5 rfl rfl rfl (show Cond.fieldLink RX5 132 "FiveShogiModel" "length" "I" ∈ _ by decide +kernel) rfl dX5_perform_53 ?_
    refine ev_icmp_ge (tgt := 120) hX dX5_perform_56 (by decide) ?_ ?_
    · refine ev_mask [true, false, true, false, true, false, false] (L' := [some (.inr (.inl 0)), none, some (.inl x2), none, some (.inl x4), none, none]) rfl rfl ?_
      exact e_X5_perform_120 hX hr x2 x4 w
    · refine ev_iload hX dX5_perform_59 rfl ?_
      refine ev_if_eq (tgt := 120) hX dX5_perform_61 (by decide) ?_ ?_
      · refine ev_mask [true, false, true, false, true, false, false] (L' := [some (.inr (.inl 0)), none, some (.inl x2), none, some (.inl x4), none, none]) rfl rfl ?_
        exact e_X5_perform_120 hX hr x2 x4 w
      · refine ev_aload_n hX dX5_perform_64 rfl ?_
        refine ev_iload_n hX dX5_perform_65 rfl ?_
        refine ev_callVi hX (k0 := 0) (As := [.inl x3]) (rm := rm_X5_codeIn) (c_X5_codeIn l D cI cC td x3 w) (cwV 1 hX.ts gX5_perform_X5_codeIn rfl rfl rfl (by decide +kernel) ⟨Nat.le_of_ble_eq_true rfl, Nat.le_of_ble_eq_true rfl⟩) rfl rfl rfl rfl rfl rfl ⟨Nat.le_of_ble_eq_true rfl, Nat.le_of_ble_eq_true rfl⟩ dX5_perform_66 rfl (fun z4 hz4 => ?_)
        refine ev_istore hX dX5_perform_69 rfl (L' := [some (.inr (.inl 0)), none, some (.inl x2), some (.inl x3), some (.inl x4), some (.inl z4.1), none]) rfl ?_
        refine ev_aload_n hX dX5_perform_71 rfl ?_
        refine ev_iconst hX dX5_perform_72 (v := 0) (by decide +kernel) ?_
        refine ev_iload hX dX5_perform_73 rfl ?_
        refine ev_callVi hX (k0 := 0) (As := [.inl 0, .inl z4.1]) (rm := rm_X5_reason) (c_X5_reason l D cI cC td 0 z4.1 z4.2) (cwV 2 hX.ts gX5_perform_X5_reason rfl rfl rfl (by decide +kernel) ⟨Nat.le_of_ble_eq_true rfl, Nat.le_of_ble_eq_true rfl⟩) rfl rfl rfl rfl rfl rfl ⟨Nat.le_of_ble_eq_true rfl, Nat.le_of_ble_eq_true rfl⟩ dX5_perform_75 rfl (fun z5 hz5 => ?_)
        refine ev_if_ne (tgt := 85) hX dX5_perform_78 (by decide) ?_ ?_
        · refine ev_iconst hX dX5_perform_85 (v := 0) (by decide +kernel) ?_
          refine ev_mask [true, false, true, true, false, true, false] (L' := [some (.inr (.inl 0)), none, some (.inl x2), some (.inl x3), none, some (.inl z4.1), none]) rfl rfl ?_
          exact e_X5_perform_86 hX hr (fun x2' x3' x4' w' => f_X5_perform_51 n x2' x3' x4' w') (fun x2' x3' x4' w' => ih x2' x3' x4' w') x2 x3 z4.1 0 z5.2
        · refine ev_iconst hX dX5_perform_81 (v := 1) (by decide +kernel) ?_
          refine ev_goto (tgt := 86) hX dX5_perform_82 (by decide) ?_
          refine ev_mask [true, false, true, true, false, true, false] (L' := [some (.inr (.inl 0)), none, some (.inl x2), some (.inl x3), none, some (.inl z4.1), none]) rfl rfl ?_
          exact e_X5_perform_86 hX hr (fun x2' x3' x4' w' => f_X5_perform_51 n x2' x3' x4' w') (fun x2' x3' x4' w' => ih x2' x3' x4' w') x2 x3 z4.1 1 z5.2
set_option maxHeartbeats 4000000 in
set_option maxRecDepth 100000 in
theorem e_X5_perform_20 (hX : mv_X p s m args meth c D vwCl cI cC tbX td A cX5_perform 7 RX5 wsX5_perform) (hr : meth.sig.returnType = (some .int)) : ∀ (n : Nat) (x2 : Int32) (w : mvW), EV p l e (headSpec wsX5_perform rm_X5_perform).room s m args below meth c D vwCl cI cC td A (fun a => a = ad0) (mv_Qi below args s D vwCl cI cC shM ad0 A) 0 0 shM [some (.inr (.inl 0)), none, some (.inl x2), none, none, none, none] [] 20 w (f_X5_perform_20 n x2 w) := by
  intro n
  induction n with
  | zero => intro x2 w; exact ev_none
  | succ n ih =>
    intro x2 w
    rw [f_X5_perform_20]
    refine ev_iload_n hX dX5_perform_20 rfl ?_
    refine ev_bipush hX dX5_perform_21 (v := 40) (by decide +kernel) ?_
    refine ev_icmp_ge (tgt := 44) hX dX5_perform_23 (by decide) ?_ ?_
    · refine ev_iconst hX dX5_perform_44 (v := 0) (by decide +kernel) ?_
      refine ev_istore_n hX dX5_perform_45 rfl (L' := [some (.inr (.inl 0)), none, some (.inl 0), none, none, none, none]) rfl ?_
      refine ev_iconst hX dX5_perform_46 (v := 0) (by decide +kernel) ?_
      refine ev_istore_n hX dX5_perform_47 rfl (L' := [some (.inr (.inl 0)), none, some (.inl 0), some (.inl 0), none, none, none]) rfl ?_
      refine ev_iconst hX dX5_perform_48 (v := 1) (by decide +kernel) ?_
      refine ev_istore hX dX5_perform_49 rfl (L' := [some (.inr (.inl 0)), none, some (.inl 0), some (.inl 0), some (.inl 1), none, none]) rfl ?_
      refine ev_mask [true, false, true, true, true, false, false] (L' := [some (.inr (.inl 0)), none, some (.inl 0), some (.inl 0), some (.inl 1), none, none]) rfl rfl ?_
      exact e_X5_perform_51 hX hr 4096 0 0 1 w
    · refine ev_aload_n hX dX5_perform_26 rfl ?_
      refine ev_getr (k := 1) hX (T := TX5) in_X5_perform_X5 rfl rfl rfl (show Cond.fieldLink RX5 13 "FiveShogiModel" "held" "[I" ∈ _ by decide +kernel) rfl dX5_perform_27 ?_
      refine ev_iload_n hX dX5_perform_30 rfl ?_
      refine ev_aload_n hX dX5_perform_31 rfl ?_
      refine ev_getr (k := 0) hX (T := TX5) in_X5_perform_X5 rfl rfl rfl (show Cond.fieldLink RX5 7 "FiveShogiModel" "s" "[I" ∈ _ by decide +kernel) rfl dX5_perform_32 ?_
      refine ev_iload_n hX dX5_perform_35 rfl ?_
      refine ev_iald hX rfl dX5_perform_36 (fun j2 => ?_)
      refine ev_iast hX rfl dX5_perform_37 (fun j3 => ?_)
      refine ev_iinc hX dX5_perform_38 rfl (v := 1) (by decide +kernel) (L' := [some (.inr (.inl 0)), none, some (.inl (x2 + 1)), none, none, none, none]) rfl ?_
      refine ev_goto (tgt := 20) hX dX5_perform_41 (by decide) ?_
      refine ev_mask [true, false, true, false, false, false, false] (L' := [some (.inr (.inl 0)), none, some (.inl (x2 + 1)), none, none, none, none]) rfl rfl ?_
      exact ih (x2 + 1) (mv_up w 2 j3 (w 1 j2))
set_option maxHeartbeats 4000000 in
set_option maxRecDepth 100000 in
theorem c_X5_perform (l : Launch) (D : va_G) (cI cC : ClassId) (td : Nat → Option Nat) (w : mvW) : ∀ z, f_X5_perform w = some z → mv_Ci l D vwCl cI cC tbX td yX5_perform wsX5_perform rm_X5_perform shM w [.inr (.inl 0)] z := by
  refine mv_starti (own := RX5) rfl (by decide) rfl rfl (L0 := [some (.inr (.inl 0)), none, none, none, none, none, none]) rfl (fun p e s m args below meth c A ad0 hX hr => ?_)
  rw [f_X5_perform]
  refine ev_aload_n hX dX5_perform_0 rfl ?_
  refine ev_callVi hX (k0 := 0) (As := []) (rm := rm_X5_fault) (c_X5_fault l D cI cC td w) (cwV 0 hX.ts gX5_perform_X5_fault rfl rfl rfl (by decide +kernel) ⟨Nat.le_of_ble_eq_true rfl, Nat.le_of_ble_eq_true rfl⟩) rfl rfl rfl rfl rfl rfl ⟨Nat.le_of_ble_eq_true rfl, Nat.le_of_ble_eq_true rfl⟩ dX5_perform_1 rfl (fun z1 hz1 => ?_)
  refine ev_istore_n hX dX5_perform_4 rfl (L' := [some (.inr (.inl 0)), some (.inl z1.1), none, none, none, none, none]) rfl ?_
  refine ev_iload_n hX dX5_perform_5 rfl ?_
  refine ev_sipush hX dX5_perform_6 (v := (-1005)) (by decide +kernel) ?_
  refine ev_icmp_eq (tgt := 18) hX dX5_perform_9 (by decide) ?_ ?_
  · refine ev_iconst hX dX5_perform_18 (v := 0) (by decide +kernel) ?_
    refine ev_istore_n hX dX5_perform_19 rfl (L' := [some (.inr (.inl 0)), some (.inl z1.1), some (.inl 0), none, none, none, none]) rfl ?_
    refine ev_mask [true, false, true, false, false, false, false] (L' := [some (.inr (.inl 0)), none, some (.inl 0), none, none, none, none]) rfl rfl ?_
    exact e_X5_perform_20 hX hr 4096 0 z1.2
  · refine ev_sipush hX dX5_perform_12 (v := (-2000)) (by decide +kernel) ?_
    refine ev_iload_n hX dX5_perform_15 rfl ?_
    refine ev_isub hX dX5_perform_16 ?_
    exact ev_ireti hX hr dX5_perform_17
def rm_X0_size : Room := { frames := 0, cells := 0, slots := 0, locals := 0 }
set_option maxRecDepth 20000 in
theorem in_X0_size_X0 : ∀ w ∈ u_ws RX0 TX0 2, w ∈ wsX0_size := by decide +kernel
set_option maxHeartbeats 4000000 in
set_option maxRecDepth 100000 in
theorem c_X0_size (l : Launch) (D : va_G) (cI cC : ClassId) (td : Nat → Option Nat) (w : mvW) : ∀ z, f_X0_size w = some z → mv_Ci l D vwCl cI cC tbX td yX0_size wsX0_size rm_X0_size shX w [.inr (.inl 9)] z := by
  refine mv_starti (own := RX0) rfl (by decide) rfl rfl (L0 := [some (.inr (.inl 9))]) rfl (fun p e s m args below meth c A ad0 hX hr => ?_)
  rw [f_X0_size]
  refine ev_aload_n hX dX0_size_0 rfl ?_
  refine ev_get (k := 1) hX (T := TX0) in_X0_size_X0 rfl rfl rfl (show Cond.fieldLink RX0 15 "FiveShogi$History" "size" "I" ∈ _ by decide +kernel) rfl dX0_size_1 ?_
  exact ev_ireti hX hr dX0_size_4
set_option maxHeartbeats 4000000 in
set_option maxRecDepth 100000 in
theorem c_X2_copyFrom_10 (l : Launch) (D : va_G) (cI cC : ClassId) (td : Nat → Option Nat) (a2 : Int32) (w : mvW) : ∀ z, f_X2_copyFrom_10 a2 w = some z → mv_Cv l D vwCl cI cC tbX td yX2_copyFrom wsX2_copyFrom rm_X2_copyFrom shX w [.inr (.inl 1), .inr (.inl 10), .inl a2] z := by
  refine mv_startv (own := RX2) rfl (by decide) rfl rfl (L0 := [some (.inr (.inl 1)), some (.inr (.inl 10)), some (.inl a2)]) rfl (fun p e s m args below meth c A ad0 hX hr => ?_)
  rw [f_X2_copyFrom_10]
  refine ev_aload_n hX dX2_copyFrom_0 rfl ?_
  refine ev_ifnull hX dX2_copyFrom_1 ?_
  refine ev_iload_n hX dX2_copyFrom_4 rfl ?_
  refine ev_if_lt (tgt := 29) hX dX2_copyFrom_5 (by decide) ?_ ?_
  · exact ev_vret hX hr dX2_copyFrom_29
  · refine ev_iload_n hX dX2_copyFrom_8 rfl ?_
    refine ev_aload_n hX dX2_copyFrom_9 rfl ?_
    refine ev_alen hX rfl (v := 176) (by decide +kernel) dX2_copyFrom_10 ?_
    refine ev_bipush hX dX2_copyFrom_11 (v := 44) (by decide +kernel) ?_
    refine ev_isub hX dX2_copyFrom_13 ?_
    refine ev_icmp_gt (tgt := 29) hX dX2_copyFrom_14 (by decide) ?_ ?_
    · exact ev_vret hX hr dX2_copyFrom_29
    · refine ev_aload_n hX dX2_copyFrom_17 rfl ?_
      refine ev_iload_n hX dX2_copyFrom_18 rfl ?_
      refine ev_aload_n hX dX2_copyFrom_19 rfl ?_
      refine ev_getr (k := 0) hX (T := TX2) in_X2_copyFrom_X2 rfl rfl rfl (show Cond.fieldLink RX2 11 "FiveShogi$Position" "state" "[I" ∈ _ by decide +kernel) rfl dX2_copyFrom_20 ?_
      refine ev_iconst hX dX2_copyFrom_23 (v := 0) (by decide +kernel) ?_
      refine ev_bipush hX dX2_copyFrom_24 (v := 44) (by decide +kernel) ?_
      refine ev_copy hX rfl rfl (show Cond.methodLink RX2 32 arraycopyName ∈ _ by decide +kernel) (by decide +kernel) (by decide +kernel) (by decide +kernel) rfl (Nat.le_of_ble_eq_true rfl) (Nat.le_of_ble_eq_true rfl) dX2_copyFrom_26 (fun q1 => ?_)
      exact ev_vret hX hr dX2_copyFrom_29
def rm_X0_popInto : Room := { frames := 2, cells := 0, slots := 0, locals := 62 }
set_option maxRecDepth 20000 in
theorem in_X0_popInto_X0 : ∀ w ∈ u_ws RX0 TX0 2, w ∈ wsX0_popInto := by decide +kernel
set_option maxHeartbeats 4000000 in
set_option maxRecDepth 100000 in
theorem c_X0_popInto_1 (l : Launch) (D : va_G) (cI cC : ClassId) (td : Nat → Option Nat) (w : mvW) : ∀ z, f_X0_popInto_1 w = some z → mv_Cv l D vwCl cI cC tbX td yX0_popInto wsX0_popInto rm_X0_popInto shX w [.inr (.inl 9), .inr (.inl 1)] z := by
  refine mv_startv (own := RX0) rfl (by decide) rfl rfl (L0 := [some (.inr (.inl 9)), some (.inr (.inl 1))]) rfl (fun p e s m args below meth c A ad0 hX hr => ?_)
  rw [f_X0_popInto_1]
  refine ev_aload_n hX dX0_popInto_0 rfl ?_
  refine ev_ifnull hX dX0_popInto_1 ?_
  refine ev_aload_n hX dX0_popInto_4 rfl ?_
  refine ev_get (k := 1) hX (T := TX0) in_X0_popInto_X0 rfl rfl rfl (show Cond.fieldLink RX0 15 "FiveShogi$History" "size" "I" ∈ _ by decide +kernel) rfl dX0_popInto_5 ?_
  refine ev_if_gt (tgt := 12) hX dX0_popInto_8 (by decide) ?_ ?_
  · refine ev_aload_n hX dX0_popInto_12 rfl ?_
    refine ev_dup hX dX0_popInto_13 ?_
    refine ev_get (k := 1) hX (T := TX0) in_X0_popInto_X0 rfl rfl rfl (show Cond.fieldLink RX0 15 "FiveShogi$History" "size" "I" ∈ _ by decide +kernel) rfl dX0_popInto_14 ?_
    refine ev_iconst hX dX0_popInto_17 (v := 1) (by decide +kernel) ?_
    refine ev_isub hX dX0_popInto_18 ?_
    refine ev_put (k := 1) hX (T := TX0) (ty := .int) in_X0_popInto_X0 tyX0 tyX0_ok nmX0 rfl rfl rfl (show Cond.fieldLink RX0 15 "FiveShogi$History" "size" "I" ∈ _ by decide +kernel) rfl (by decide +kernel) rfl rfl rfl dX0_popInto_19 ?_
    refine ev_aload_n hX dX0_popInto_22 rfl ?_
    refine ev_aload_n hX dX0_popInto_23 rfl ?_
    refine ev_getr (k := 0) hX (T := TX0) in_X0_popInto_X0 rfl rfl rfl (show Cond.fieldLink RX0 11 "FiveShogi$History" "states" "[I" ∈ _ by decide +kernel) rfl dX0_popInto_24 ?_
    refine ev_aload_n hX dX0_popInto_27 rfl ?_
    refine ev_get (k := 1) hX (T := TX0) in_X0_popInto_X0 rfl rfl rfl (show Cond.fieldLink RX0 15 "FiveShogi$History" "size" "I" ∈ _ by decide +kernel) rfl dX0_popInto_28 ?_
    refine ev_bipush hX dX0_popInto_31 (v := 44) (by decide +kernel) ?_
    refine ev_imul hX dX0_popInto_33 ?_
    refine ev_callVv hX (k0 := 1) (As := [.inr (.inl 10), .inl (((mv_up w 9 1 ((w 9 1) - 1)) 9 1) * 44)]) (rm := rm_X2_copyFrom) (c_X2_copyFrom_10 l D cI cC td (((mv_up w 9 1 ((w 9 1) - 1)) 9 1) * 44) (mv_up w 9 1 ((w 9 1) - 1))) (cwV 2 hX.ts gX0_popInto_X2_copyFrom rfl rfl rfl (by decide +kernel) ⟨Nat.le_of_ble_eq_true rfl, Nat.le_of_ble_eq_true rfl⟩) rfl rfl rfl rfl rfl rfl ⟨Nat.le_of_ble_eq_true rfl, Nat.le_of_ble_eq_true rfl⟩ dX0_popInto_34 rfl (fun z1 hz1 => ?_)
    exact ev_vret hX hr dX0_popInto_37
  · exact ev_vret hX hr dX0_popInto_11
def rm_X4_undo : Room := { frames := 3, cells := 0, slots := 0, locals := 83 }
set_option maxRecDepth 20000 in
theorem in_X4_undo_X4 : ∀ w ∈ u_ws RX4 TX4 7, w ∈ wsX4_undo := by decide +kernel
set_option maxHeartbeats 4000000 in
set_option maxRecDepth 100000 in
theorem c_X4_undo (l : Launch) (D : va_G) (cI cC : ClassId) (td : Nat → Option Nat) (w : mvW) : ∀ z, f_X4_undo w = some z → mv_Ci l D vwCl cI cC tbX td yX4_undo wsX4_undo rm_X4_undo shX w [.inr (.inl 0)] z := by
  refine mv_starti (own := RX4) rfl (by decide) rfl rfl (L0 := [some (.inr (.inl 0))]) rfl (fun p e s m args below meth c A ad0 hX hr => ?_)
  rw [f_X4_undo]
  refine ev_aload_n hX dX4_undo_0 rfl ?_
  refine ev_getr (k := 2) hX (T := TX4) in_X4_undo_X4 rfl rfl rfl (show Cond.fieldLink RX4 28 "FiveShogi" "history" "LFiveShogi$History;" ∈ _ by decide +kernel) rfl dX4_undo_1 ?_
  refine ev_callVi hX (k0 := 9) (As := []) (rm := rm_X0_size) (c_X0_size l D cI cC td w) (cwV 0 hX.ts gX4_undo_X0_size rfl rfl rfl (by decide +kernel) ⟨Nat.le_of_ble_eq_true rfl, Nat.le_of_ble_eq_true rfl⟩) rfl rfl rfl rfl rfl rfl ⟨Nat.le_of_ble_eq_true rfl, Nat.le_of_ble_eq_true rfl⟩ dX4_undo_4 rfl (fun z1 hz1 => ?_)
  refine ev_if_ne (tgt := 14) hX dX4_undo_7 (by decide) ?_ ?_
  · refine ev_aload_n hX dX4_undo_14 rfl ?_
    refine ev_getr (k := 2) hX (T := TX4) in_X4_undo_X4 rfl rfl rfl (show Cond.fieldLink RX4 28 "FiveShogi" "history" "LFiveShogi$History;" ∈ _ by decide +kernel) rfl dX4_undo_15 ?_
    refine ev_aload_n hX dX4_undo_18 rfl ?_
    refine ev_getr (k := 0) hX (T := TX4) in_X4_undo_X4 rfl rfl rfl (show Cond.fieldLink RX4 12 "FiveShogi" "position" "LFiveShogi$Position;" ∈ _ by decide +kernel) rfl dX4_undo_19 ?_
    refine ev_callVv hX (k0 := 9) (As := [.inr (.inl 1)]) (rm := rm_X0_popInto) (c_X0_popInto_1 l D cI cC td z1.2) (cwV 1 hX.ts gX4_undo_X0_popInto rfl rfl rfl (by decide +kernel) ⟨Nat.le_of_ble_eq_true rfl, Nat.le_of_ble_eq_true rfl⟩) rfl rfl rfl rfl rfl rfl ⟨Nat.le_of_ble_eq_true rfl, Nat.le_of_ble_eq_true rfl⟩ dX4_undo_22 rfl (fun z2 hz2 => ?_)
    refine ev_aload_n hX dX4_undo_25 rfl ?_
    refine ev_getr (k := 2) hX (T := TX4) in_X4_undo_X4 rfl rfl rfl (show Cond.fieldLink RX4 28 "FiveShogi" "history" "LFiveShogi$History;" ∈ _ by decide +kernel) rfl dX4_undo_26 ?_
    refine ev_callVi hX (k0 := 9) (As := []) (rm := rm_X0_size) (c_X0_size l D cI cC td z2) (cwV 0 hX.ts gX4_undo_X0_size rfl rfl rfl (by decide +kernel) ⟨Nat.le_of_ble_eq_true rfl, Nat.le_of_ble_eq_true rfl⟩) rfl rfl rfl rfl rfl rfl ⟨Nat.le_of_ble_eq_true rfl, Nat.le_of_ble_eq_true rfl⟩ dX4_undo_29 rfl (fun z3 hz3 => ?_)
    exact ev_ireti hX hr dX4_undo_32
  · refine ev_sipush hX dX4_undo_10 (v := (-1005)) (by decide +kernel) ?_
    exact ev_ireti hX hr dX4_undo_13
def rm_X5_undo : Room := { frames := 0, cells := 0, slots := 0, locals := 0 }
set_option maxRecDepth 20000 in
theorem in_X5_undo_X5 : ∀ w ∈ u_ws RX5 TX5 8, w ∈ wsX5_undo := by decide +kernel
set_option maxHeartbeats 4000000 in
set_option maxRecDepth 100000 in
theorem e_X5_undo_23 (hX : mv_X p s m args meth c D vwCl cI cC tbX td A cX5_undo 2 RX5 wsX5_undo) (hr : meth.sig.returnType = (some .int)) : ∀ (n : Nat) (x1 : Int32) (w : mvW), EV p l e (headSpec wsX5_undo rm_X5_undo).room s m args below meth c D vwCl cI cC td A (fun a => a = ad0) (mv_Qi below args s D vwCl cI cC shM ad0 A) 0 0 shM [some (.inr (.inl 0)), some (.inl x1)] [] 23 w (f_X5_undo_23 n x1 w) := by
  intro n
  induction n with
  | zero => intro x1 w; exact ev_none
  | succ n ih =>
    intro x1 w
    rw [f_X5_undo_23]
    refine ev_iload_n hX dX5_undo_23 rfl ?_
    refine ev_bipush hX dX5_undo_24 (v := 40) (by decide +kernel) ?_
    refine ev_icmp_ge (tgt := 55) hX dX5_undo_26 (by decide) ?_ ?_
    · refine ev_aload_n hX dX5_undo_55 rfl ?_
      refine ev_get (k := 3) hX (T := TX5) in_X5_undo_X5 rfl rfl rfl (show Cond.fieldLink RX5 29 "FiveShogiModel" "known" "I" ∈ _ by decide +kernel) rfl dX5_undo_56 ?_
      exact ev_ireti hX hr dX5_undo_59
    · refine ev_aload_n hX dX5_undo_29 rfl ?_
      refine ev_getr (k := 0) hX (T := TX5) in_X5_undo_X5 rfl rfl rfl (show Cond.fieldLink RX5 7 "FiveShogiModel" "s" "[I" ∈ _ by decide +kernel) rfl dX5_undo_30 ?_
      refine ev_iload_n hX dX5_undo_33 rfl ?_
      refine ev_aload_n hX dX5_undo_34 rfl ?_
      refine ev_getr (k := 2) hX (T := TX5) in_X5_undo_X5 rfl rfl rfl (show Cond.fieldLink RX5 16 "FiveShogiModel" "before" "[I" ∈ _ by decide +kernel) rfl dX5_undo_35 ?_
      refine ev_bipush hX dX5_undo_38 (v := 40) (by decide +kernel) ?_
      refine ev_aload_n hX dX5_undo_40 rfl ?_
      refine ev_get (k := 3) hX (T := TX5) in_X5_undo_X5 rfl rfl rfl (show Cond.fieldLink RX5 29 "FiveShogiModel" "known" "I" ∈ _ by decide +kernel) rfl dX5_undo_41 ?_
      refine ev_imul hX dX5_undo_44 ?_
      refine ev_iload_n hX dX5_undo_45 rfl ?_
      refine ev_iadd hX dX5_undo_46 ?_
      refine ev_iald hX rfl dX5_undo_47 (fun j1 => ?_)
      refine ev_iast hX rfl dX5_undo_48 (fun j2 => ?_)
      refine ev_iinc hX dX5_undo_49 rfl (v := 1) (by decide +kernel) (L' := [some (.inr (.inl 0)), some (.inl (x1 + 1))]) rfl ?_
      refine ev_goto (tgt := 23) hX dX5_undo_52 (by decide) ?_
      refine ev_mask [true, true] (L' := [some (.inr (.inl 0)), some (.inl (x1 + 1))]) rfl rfl ?_
      exact ih (x1 + 1) (mv_up w 1 j2 (w 3 j1))
set_option maxHeartbeats 4000000 in
set_option maxRecDepth 100000 in
theorem c_X5_undo (l : Launch) (D : va_G) (cI cC : ClassId) (td : Nat → Option Nat) (w : mvW) : ∀ z, f_X5_undo w = some z → mv_Ci l D vwCl cI cC tbX td yX5_undo wsX5_undo rm_X5_undo shM w [.inr (.inl 0)] z := by
  refine mv_starti (own := RX5) rfl (by decide) rfl rfl (L0 := [some (.inr (.inl 0)), none]) rfl (fun p e s m args below meth c A ad0 hX hr => ?_)
  rw [f_X5_undo]
  refine ev_aload_n hX dX5_undo_0 rfl ?_
  refine ev_get (k := 3) hX (T := TX5) in_X5_undo_X5 rfl rfl rfl (show Cond.fieldLink RX5 29 "FiveShogiModel" "known" "I" ∈ _ by decide +kernel) rfl dX5_undo_1 ?_
  refine ev_if_ne (tgt := 11) hX dX5_undo_4 (by decide) ?_ ?_
  · refine ev_aload_n hX dX5_undo_11 rfl ?_
    refine ev_dup hX dX5_undo_12 ?_
    refine ev_get (k := 3) hX (T := TX5) in_X5_undo_X5 rfl rfl rfl (show Cond.fieldLink RX5 29 "FiveShogiModel" "known" "I" ∈ _ by decide +kernel) rfl dX5_undo_13 ?_
    refine ev_iconst hX dX5_undo_16 (v := 1) (by decide +kernel) ?_
    refine ev_isub hX dX5_undo_17 ?_
    refine ev_put (k := 3) hX (T := TX5) (ty := .int) in_X5_undo_X5 tyX5 tyX5_ok nmX5 rfl rfl rfl (show Cond.fieldLink RX5 29 "FiveShogiModel" "known" "I" ∈ _ by decide +kernel) rfl (by decide +kernel) rfl rfl rfl dX5_undo_18 ?_
    refine ev_iconst hX dX5_undo_21 (v := 0) (by decide +kernel) ?_
    refine ev_istore_n hX dX5_undo_22 rfl (L' := [some (.inr (.inl 0)), some (.inl 0)]) rfl ?_
    refine ev_mask [true, true] (L' := [some (.inr (.inl 0)), some (.inl 0)]) rfl rfl ?_
    exact e_X5_undo_23 hX hr 4096 0 (mv_up w 0 3 ((w 0 3) - 1))
  · refine ev_sipush hX dX5_undo_7 (v := (-1005)) (by decide +kernel) ?_
    exact ev_ireti hX hr dX5_undo_10
set_option maxHeartbeats 4000000 in
set_option maxRecDepth 100000 in
theorem c_X2_copyTo_15 (l : Launch) (D : va_G) (cI cC : ClassId) (td : Nat → Option Nat) (a2 : Int32) (w : mvW) : ∀ z, f_X2_copyTo_15 a2 w = some z → mv_Cv l D vwCl cI cC tbX td yX2_copyTo wsX2_copyTo rm_X2_copyTo shX w [.inr (.inl 1), .inr (.inl 15), .inl a2] z := by
  refine mv_startv (own := RX2) rfl (by decide) rfl rfl (L0 := [some (.inr (.inl 1)), some (.inr (.inl 15)), some (.inl a2)]) rfl (fun p e s m args below meth c A ad0 hX hr => ?_)
  rw [f_X2_copyTo_15]
  refine ev_aload_n hX dX2_copyTo_0 rfl ?_
  refine ev_ifnull hX dX2_copyTo_1 ?_
  refine ev_iload_n hX dX2_copyTo_4 rfl ?_
  refine ev_if_lt (tgt := 29) hX dX2_copyTo_5 (by decide) ?_ ?_
  · exact ev_vret hX hr dX2_copyTo_29
  · refine ev_iload_n hX dX2_copyTo_8 rfl ?_
    refine ev_aload_n hX dX2_copyTo_9 rfl ?_
    refine ev_alen hX rfl (v := 44) (by decide +kernel) dX2_copyTo_10 ?_
    refine ev_bipush hX dX2_copyTo_11 (v := 44) (by decide +kernel) ?_
    refine ev_isub hX dX2_copyTo_13 ?_
    refine ev_icmp_gt (tgt := 29) hX dX2_copyTo_14 (by decide) ?_ ?_
    · exact ev_vret hX hr dX2_copyTo_29
    · refine ev_aload_n hX dX2_copyTo_17 rfl ?_
      refine ev_getr (k := 0) hX (T := TX2) in_X2_copyTo_X2 rfl rfl rfl (show Cond.fieldLink RX2 11 "FiveShogi$Position" "state" "[I" ∈ _ by decide +kernel) rfl dX2_copyTo_18 ?_
      refine ev_iconst hX dX2_copyTo_21 (v := 0) (by decide +kernel) ?_
      refine ev_aload_n hX dX2_copyTo_22 rfl ?_
      refine ev_iload_n hX dX2_copyTo_23 rfl ?_
      refine ev_bipush hX dX2_copyTo_24 (v := 44) (by decide +kernel) ?_
      refine ev_copy hX rfl rfl (show Cond.methodLink RX2 32 arraycopyName ∈ _ by decide +kernel) (by decide +kernel) (by decide +kernel) (by decide +kernel) rfl (Nat.le_of_ble_eq_true rfl) (Nat.le_of_ble_eq_true rfl) dX2_copyTo_26 (fun q1 => ?_)
      exact ev_vret hX hr dX2_copyTo_29
def rm_X4_keep : Room := { frames := 2, cells := 0, slots := 0, locals := 62 }
set_option maxRecDepth 20000 in
theorem in_X4_keep_X4 : ∀ w ∈ u_ws RX4 TX4 7, w ∈ wsX4_keep := by decide +kernel
set_option maxHeartbeats 4000000 in
set_option maxRecDepth 100000 in
theorem c_X4_keep (l : Launch) (D : va_G) (cI cC : ClassId) (td : Nat → Option Nat) (w : mvW) : ∀ z, f_X4_keep w = some z → mv_Ci l D vwCl cI cC tbX td yX4_keep wsX4_keep rm_X4_keep shX w [.inr (.inl 0)] z := by
  refine mv_starti (own := RX4) rfl (by decide) rfl rfl (L0 := [some (.inr (.inl 0))]) rfl (fun p e s m args below meth c A ad0 hX hr => ?_)
  rw [f_X4_keep]
  refine ev_aload_n hX dX4_keep_0 rfl ?_
  refine ev_getr (k := 0) hX (T := TX4) in_X4_keep_X4 rfl rfl rfl (show Cond.fieldLink RX4 12 "FiveShogi" "position" "LFiveShogi$Position;" ∈ _ by decide +kernel) rfl dX4_keep_1 ?_
  refine ev_aload_n hX dX4_keep_4 rfl ?_
  refine ev_getr (k := 5) hX (T := TX4) in_X4_keep_X4 rfl rfl rfl (show Cond.fieldLink RX4 43 "FiveShogi" "snapshot" "[I" ∈ _ by decide +kernel) rfl dX4_keep_5 ?_
  refine ev_iconst hX dX4_keep_8 (v := 0) (by decide +kernel) ?_
  refine ev_callVv hX (k0 := 1) (As := [.inr (.inl 15), .inl 0]) (rm := rm_X2_copyTo) (c_X2_copyTo_15 l D cI cC td 0 w) (cwV 2 hX.ts gX4_keep_X2_copyTo rfl rfl rfl (by decide +kernel) ⟨Nat.le_of_ble_eq_true rfl, Nat.le_of_ble_eq_true rfl⟩) rfl rfl rfl rfl rfl rfl ⟨Nat.le_of_ble_eq_true rfl, Nat.le_of_ble_eq_true rfl⟩ dX4_keep_9 rfl (fun z1 hz1 => ?_)
  refine ev_aload_n hX dX4_keep_12 rfl ?_
  refine ev_iconst hX dX4_keep_13 (v := 1) (by decide +kernel) ?_
  refine ev_put (k := 6) hX (T := TX4) (ty := .boolean) in_X4_keep_X4 tyX4 tyX4_ok nmX4 rfl rfl rfl (show Cond.fieldLink RX4 46 "FiveShogi" "hasSnapshot" "Z" ∈ _ by decide +kernel) rfl (by decide +kernel) rfl rfl rfl dX4_keep_14 ?_
  refine ev_aload_n hX dX4_keep_17 rfl ?_
  refine ev_getr (k := 0) hX (T := TX4) in_X4_keep_X4 rfl rfl rfl (show Cond.fieldLink RX4 12 "FiveShogi" "position" "LFiveShogi$Position;" ∈ _ by decide +kernel) rfl dX4_keep_18 ?_
  refine ev_callVi hX (k0 := 1) (As := []) (rm := rm_X2_menOnBoard) (c_X2_menOnBoard l D cI cC td (mv_up z1 0 6 1)) (cwV 0 hX.ts gX4_keep_X2_menOnBoard rfl rfl rfl (by decide +kernel) ⟨Nat.le_of_ble_eq_true rfl, Nat.le_of_ble_eq_true rfl⟩) rfl rfl rfl rfl rfl rfl ⟨Nat.le_of_ble_eq_true rfl, Nat.le_of_ble_eq_true rfl⟩ dX4_keep_21 rfl (fun z2 hz2 => ?_)
  exact ev_ireti hX hr dX4_keep_24
def rm_X5_keep : Room := { frames := 1, cells := 0, slots := 0, locals := 22 }
set_option maxRecDepth 20000 in
theorem in_X5_keep_X5 : ∀ w ∈ u_ws RX5 TX5 8, w ∈ wsX5_keep := by decide +kernel
set_option maxHeartbeats 4000000 in
set_option maxRecDepth 100000 in
theorem e_X5_keep_2 (hX : mv_X p s m args meth c D vwCl cI cC tbX td A cX5_keep 2 RX5 wsX5_keep) (hr : meth.sig.returnType = (some .int)) : ∀ (n : Nat) (x1 : Int32) (w : mvW), EV p l e (headSpec wsX5_keep rm_X5_keep).room s m args below meth c D vwCl cI cC td A (fun a => a = ad0) (mv_Qi below args s D vwCl cI cC shM ad0 A) 0 0 shM [some (.inr (.inl 0)), some (.inl x1)] [] 2 w (f_X5_keep_2 n x1 w) := by
  intro n
  induction n with
  | zero => intro x1 w; exact ev_none
  | succ n ih =>
    intro x1 w
    rw [f_X5_keep_2]
    refine ev_iload_n hX dX5_keep_2 rfl ?_
    refine ev_bipush hX dX5_keep_3 (v := 40) (by decide +kernel) ?_
    refine ev_icmp_ge (tgt := 26) hX dX5_keep_5 (by decide) ?_ ?_
    · refine ev_aload_n hX dX5_keep_26 rfl ?_
      refine ev_iconst hX dX5_keep_27 (v := 1) (by decide +kernel) ?_
      refine ev_put (k := 5) hX (T := TX5) (ty := .boolean) in_X5_keep_X5 tyX5 tyX5_ok nmX5 rfl rfl rfl (show Cond.fieldLink RX5 162 "FiveShogiModel" "isKept" "Z" ∈ _ by decide +kernel) rfl (by decide +kernel) rfl rfl rfl dX5_keep_28 ?_
      refine ev_aload_n hX dX5_keep_31 rfl ?_
      refine ev_callVi hX (k0 := 0) (As := []) (rm := rm_X5_onBoard) (c_X5_onBoard l D cI cC td (mv_up w 0 5 1)) (cwV 0 hX.ts gX5_keep_X5_onBoard rfl rfl rfl (by decide +kernel) ⟨Nat.le_of_ble_eq_true rfl, Nat.le_of_ble_eq_true rfl⟩) rfl rfl rfl rfl rfl rfl ⟨Nat.le_of_ble_eq_true rfl, Nat.le_of_ble_eq_true rfl⟩ dX5_keep_32 rfl (fun z1 hz1 => ?_)
      exact ev_ireti hX hr dX5_keep_35
    · refine ev_aload_n hX dX5_keep_8 rfl ?_
      refine ev_getr (k := 4) hX (T := TX5) in_X5_keep_X5 rfl rfl rfl (show Cond.fieldLink RX5 19 "FiveShogiModel" "snap" "[I" ∈ _ by decide +kernel) rfl dX5_keep_9 ?_
      refine ev_iload_n hX dX5_keep_12 rfl ?_
      refine ev_aload_n hX dX5_keep_13 rfl ?_
      refine ev_getr (k := 0) hX (T := TX5) in_X5_keep_X5 rfl rfl rfl (show Cond.fieldLink RX5 7 "FiveShogiModel" "s" "[I" ∈ _ by decide +kernel) rfl dX5_keep_14 ?_
      refine ev_iload_n hX dX5_keep_17 rfl ?_
      refine ev_iald hX rfl dX5_keep_18 (fun j2 => ?_)
      refine ev_iast hX rfl dX5_keep_19 (fun j3 => ?_)
      refine ev_iinc hX dX5_keep_20 rfl (v := 1) (by decide +kernel) (L' := [some (.inr (.inl 0)), some (.inl (x1 + 1))]) rfl ?_
      refine ev_goto (tgt := 2) hX dX5_keep_23 (by decide) ?_
      refine ev_mask [true, true] (L' := [some (.inr (.inl 0)), some (.inl (x1 + 1))]) rfl rfl ?_
      exact ih (x1 + 1) (mv_up w 4 j3 (w 1 j2))
set_option maxHeartbeats 4000000 in
set_option maxRecDepth 100000 in
theorem c_X5_keep (l : Launch) (D : va_G) (cI cC : ClassId) (td : Nat → Option Nat) (w : mvW) : ∀ z, f_X5_keep w = some z → mv_Ci l D vwCl cI cC tbX td yX5_keep wsX5_keep rm_X5_keep shM w [.inr (.inl 0)] z := by
  refine mv_starti (own := RX5) rfl (by decide) rfl rfl (L0 := [some (.inr (.inl 0)), none]) rfl (fun p e s m args below meth c A ad0 hX hr => ?_)
  rw [f_X5_keep]
  refine ev_iconst hX dX5_keep_0 (v := 0) (by decide +kernel) ?_
  refine ev_istore_n hX dX5_keep_1 rfl (L' := [some (.inr (.inl 0)), some (.inl 0)]) rfl ?_
  refine ev_mask [true, true] (L' := [some (.inr (.inl 0)), some (.inl 0)]) rfl rfl ?_
  exact e_X5_keep_2 hX hr 4096 0 w
set_option maxHeartbeats 4000000 in
set_option maxRecDepth 100000 in
theorem c_X2_copyFrom_15 (l : Launch) (D : va_G) (cI cC : ClassId) (td : Nat → Option Nat) (a2 : Int32) (w : mvW) : ∀ z, f_X2_copyFrom_15 a2 w = some z → mv_Cv l D vwCl cI cC tbX td yX2_copyFrom wsX2_copyFrom rm_X2_copyFrom shX w [.inr (.inl 1), .inr (.inl 15), .inl a2] z := by
  refine mv_startv (own := RX2) rfl (by decide) rfl rfl (L0 := [some (.inr (.inl 1)), some (.inr (.inl 15)), some (.inl a2)]) rfl (fun p e s m args below meth c A ad0 hX hr => ?_)
  rw [f_X2_copyFrom_15]
  refine ev_aload_n hX dX2_copyFrom_0 rfl ?_
  refine ev_ifnull hX dX2_copyFrom_1 ?_
  refine ev_iload_n hX dX2_copyFrom_4 rfl ?_
  refine ev_if_lt (tgt := 29) hX dX2_copyFrom_5 (by decide) ?_ ?_
  · exact ev_vret hX hr dX2_copyFrom_29
  · refine ev_iload_n hX dX2_copyFrom_8 rfl ?_
    refine ev_aload_n hX dX2_copyFrom_9 rfl ?_
    refine ev_alen hX rfl (v := 44) (by decide +kernel) dX2_copyFrom_10 ?_
    refine ev_bipush hX dX2_copyFrom_11 (v := 44) (by decide +kernel) ?_
    refine ev_isub hX dX2_copyFrom_13 ?_
    refine ev_icmp_gt (tgt := 29) hX dX2_copyFrom_14 (by decide) ?_ ?_
    · exact ev_vret hX hr dX2_copyFrom_29
    · refine ev_aload_n hX dX2_copyFrom_17 rfl ?_
      refine ev_iload_n hX dX2_copyFrom_18 rfl ?_
      refine ev_aload_n hX dX2_copyFrom_19 rfl ?_
      refine ev_getr (k := 0) hX (T := TX2) in_X2_copyFrom_X2 rfl rfl rfl (show Cond.fieldLink RX2 11 "FiveShogi$Position" "state" "[I" ∈ _ by decide +kernel) rfl dX2_copyFrom_20 ?_
      refine ev_iconst hX dX2_copyFrom_23 (v := 0) (by decide +kernel) ?_
      refine ev_bipush hX dX2_copyFrom_24 (v := 44) (by decide +kernel) ?_
      refine ev_copy hX rfl rfl (show Cond.methodLink RX2 32 arraycopyName ∈ _ by decide +kernel) (by decide +kernel) (by decide +kernel) (by decide +kernel) rfl (Nat.le_of_ble_eq_true rfl) (Nat.le_of_ble_eq_true rfl) dX2_copyFrom_26 (fun q1 => ?_)
      exact ev_vret hX hr dX2_copyFrom_29
def rm_X4_restore : Room := { frames := 3, cells := 0, slots := 0, locals := 82 }
set_option maxRecDepth 20000 in
theorem in_X4_restore_X4 : ∀ w ∈ u_ws RX4 TX4 7, w ∈ wsX4_restore := by decide +kernel
set_option maxHeartbeats 4000000 in
set_option maxRecDepth 100000 in
theorem c_X4_restore (l : Launch) (D : va_G) (cI cC : ClassId) (td : Nat → Option Nat) (w : mvW) : ∀ z, f_X4_restore w = some z → mv_Ci l D vwCl cI cC tbX td yX4_restore wsX4_restore rm_X4_restore shX w [.inr (.inl 0)] z := by
  refine mv_starti (own := RX4) rfl (by decide) rfl rfl (L0 := [some (.inr (.inl 0))]) rfl (fun p e s m args below meth c A ad0 hX hr => ?_)
  rw [f_X4_restore]
  refine ev_aload_n hX dX4_restore_0 rfl ?_
  refine ev_get (k := 6) hX (T := TX4) in_X4_restore_X4 rfl rfl rfl (show Cond.fieldLink RX4 46 "FiveShogi" "hasSnapshot" "Z" ∈ _ by decide +kernel) rfl dX4_restore_1 ?_
  refine ev_if_ne (tgt := 11) hX dX4_restore_4 (by decide) ?_ ?_
  · refine ev_aload_n hX dX4_restore_11 rfl ?_
    refine ev_callVv hX (k0 := 0) (As := []) (rm := rm_X4_recordChange) (c_X4_recordChange l D cI cC td w) (cwV 0 hX.ts gX4_restore_X4_recordChange rfl rfl rfl (by decide +kernel) ⟨Nat.le_of_ble_eq_true rfl, Nat.le_of_ble_eq_true rfl⟩) rfl rfl rfl rfl rfl rfl ⟨Nat.le_of_ble_eq_true rfl, Nat.le_of_ble_eq_true rfl⟩ dX4_restore_12 rfl (fun z1 hz1 => ?_)
    refine ev_aload_n hX dX4_restore_15 rfl ?_
    refine ev_getr (k := 0) hX (T := TX4) in_X4_restore_X4 rfl rfl rfl (show Cond.fieldLink RX4 12 "FiveShogi" "position" "LFiveShogi$Position;" ∈ _ by decide +kernel) rfl dX4_restore_16 ?_
    refine ev_aload_n hX dX4_restore_19 rfl ?_
    refine ev_getr (k := 5) hX (T := TX4) in_X4_restore_X4 rfl rfl rfl (show Cond.fieldLink RX4 43 "FiveShogi" "snapshot" "[I" ∈ _ by decide +kernel) rfl dX4_restore_20 ?_
    refine ev_iconst hX dX4_restore_23 (v := 0) (by decide +kernel) ?_
    refine ev_callVv hX (k0 := 1) (As := [.inr (.inl 15), .inl 0]) (rm := rm_X2_copyFrom) (c_X2_copyFrom_15 l D cI cC td 0 z1) (cwV 2 hX.ts gX4_restore_X2_copyFrom rfl rfl rfl (by decide +kernel) ⟨Nat.le_of_ble_eq_true rfl, Nat.le_of_ble_eq_true rfl⟩) rfl rfl rfl rfl rfl rfl ⟨Nat.le_of_ble_eq_true rfl, Nat.le_of_ble_eq_true rfl⟩ dX4_restore_24 rfl (fun z2 hz2 => ?_)
    refine ev_aload_n hX dX4_restore_27 rfl ?_
    refine ev_getr (k := 0) hX (T := TX4) in_X4_restore_X4 rfl rfl rfl (show Cond.fieldLink RX4 12 "FiveShogi" "position" "LFiveShogi$Position;" ∈ _ by decide +kernel) rfl dX4_restore_28 ?_
    refine ev_callVi hX (k0 := 1) (As := []) (rm := rm_X2_menOnBoard) (c_X2_menOnBoard l D cI cC td z2) (cwV 0 hX.ts gX4_restore_X2_menOnBoard rfl rfl rfl (by decide +kernel) ⟨Nat.le_of_ble_eq_true rfl, Nat.le_of_ble_eq_true rfl⟩) rfl rfl rfl rfl rfl rfl ⟨Nat.le_of_ble_eq_true rfl, Nat.le_of_ble_eq_true rfl⟩ dX4_restore_31 rfl (fun z3 hz3 => ?_)
    exact ev_ireti hX hr dX4_restore_34
  · refine ev_sipush hX dX4_restore_7 (v := (-1005)) (by decide +kernel) ?_
    exact ev_ireti hX hr dX4_restore_10
def rm_X5_restore : Room := { frames := 1, cells := 0, slots := 0, locals := 22 }
set_option maxRecDepth 20000 in
theorem in_X5_restore_X5 : ∀ w ∈ u_ws RX5 TX5 8, w ∈ wsX5_restore := by decide +kernel
set_option maxHeartbeats 4000000 in
set_option maxRecDepth 100000 in
theorem e_X5_restore_17 (hX : mv_X p s m args meth c D vwCl cI cC tbX td A cX5_restore 2 RX5 wsX5_restore) (hr : meth.sig.returnType = (some .int)) : ∀ (n : Nat) (x1 : Int32) (w : mvW), EV p l e (headSpec wsX5_restore rm_X5_restore).room s m args below meth c D vwCl cI cC td A (fun a => a = ad0) (mv_Qi below args s D vwCl cI cC shM ad0 A) 0 0 shM [some (.inr (.inl 0)), some (.inl x1)] [] 17 w (f_X5_restore_17 n x1 w) := by
  intro n
  induction n with
  | zero => intro x1 w; exact ev_none
  | succ n ih =>
    intro x1 w
    rw [f_X5_restore_17]
    refine ev_iload_n hX dX5_restore_17 rfl ?_
    refine ev_bipush hX dX5_restore_18 (v := 40) (by decide +kernel) ?_
    refine ev_icmp_ge (tgt := 41) hX dX5_restore_20 (by decide) ?_ ?_
    · refine ev_aload_n hX dX5_restore_41 rfl ?_
      refine ev_callVi hX (k0 := 0) (As := []) (rm := rm_X5_onBoard) (c_X5_onBoard l D cI cC td w) (cwV 0 hX.ts gX5_restore_X5_onBoard rfl rfl rfl (by decide +kernel) ⟨Nat.le_of_ble_eq_true rfl, Nat.le_of_ble_eq_true rfl⟩) rfl rfl rfl rfl rfl rfl ⟨Nat.le_of_ble_eq_true rfl, Nat.le_of_ble_eq_true rfl⟩ dX5_restore_42 rfl (fun z2 hz2 => ?_)
      exact ev_ireti hX hr dX5_restore_45
    · refine ev_aload_n hX dX5_restore_23 rfl ?_
      refine ev_getr (k := 0) hX (T := TX5) in_X5_restore_X5 rfl rfl rfl (show Cond.fieldLink RX5 7 "FiveShogiModel" "s" "[I" ∈ _ by decide +kernel) rfl dX5_restore_24 ?_
      refine ev_iload_n hX dX5_restore_27 rfl ?_
      refine ev_aload_n hX dX5_restore_28 rfl ?_
      refine ev_getr (k := 4) hX (T := TX5) in_X5_restore_X5 rfl rfl rfl (show Cond.fieldLink RX5 19 "FiveShogiModel" "snap" "[I" ∈ _ by decide +kernel) rfl dX5_restore_29 ?_
      refine ev_iload_n hX dX5_restore_32 rfl ?_
      refine ev_iald hX rfl dX5_restore_33 (fun j3 => ?_)
      refine ev_iast hX rfl dX5_restore_34 (fun j4 => ?_)
      refine ev_iinc hX dX5_restore_35 rfl (v := 1) (by decide +kernel) (L' := [some (.inr (.inl 0)), some (.inl (x1 + 1))]) rfl ?_
      refine ev_goto (tgt := 17) hX dX5_restore_38 (by decide) ?_
      refine ev_mask [true, true] (L' := [some (.inr (.inl 0)), some (.inl (x1 + 1))]) rfl rfl ?_
      exact ih (x1 + 1) (mv_up w 1 j4 (w 4 j3))
set_option maxHeartbeats 4000000 in
set_option maxRecDepth 100000 in
theorem c_X5_restore (l : Launch) (D : va_G) (cI cC : ClassId) (td : Nat → Option Nat) (w : mvW) : ∀ z, f_X5_restore w = some z → mv_Ci l D vwCl cI cC tbX td yX5_restore wsX5_restore rm_X5_restore shM w [.inr (.inl 0)] z := by
  refine mv_starti (own := RX5) rfl (by decide) rfl rfl (L0 := [some (.inr (.inl 0)), none]) rfl (fun p e s m args below meth c A ad0 hX hr => ?_)
  rw [f_X5_restore]
  refine ev_aload_n hX dX5_restore_0 rfl ?_
  refine ev_get (k := 5) hX (T := TX5) in_X5_restore_X5 rfl rfl rfl (show Cond.fieldLink RX5 162 "FiveShogiModel" "isKept" "Z" ∈ _ by decide +kernel) rfl dX5_restore_1 ?_
  refine ev_if_ne (tgt := 11) hX dX5_restore_4 (by decide) ?_ ?_
  · refine ev_aload_n hX dX5_restore_11 rfl ?_
    refine ev_callVv hX (k0 := 0) (As := []) (rm := rm_X5_remembers) (c_X5_remembers l D cI cC td w) (cwV 0 hX.ts gX5_restore_X5_remembers rfl rfl rfl (by decide +kernel) ⟨Nat.le_of_ble_eq_true rfl, Nat.le_of_ble_eq_true rfl⟩) rfl rfl rfl rfl rfl rfl ⟨Nat.le_of_ble_eq_true rfl, Nat.le_of_ble_eq_true rfl⟩ dX5_restore_12 rfl (fun z1 hz1 => ?_)
    refine ev_iconst hX dX5_restore_15 (v := 0) (by decide +kernel) ?_
    refine ev_istore_n hX dX5_restore_16 rfl (L' := [some (.inr (.inl 0)), some (.inl 0)]) rfl ?_
    refine ev_mask [true, true] (L' := [some (.inr (.inl 0)), some (.inl 0)]) rfl rfl ?_
    exact e_X5_restore_17 hX hr 4096 0 z1
  · refine ev_sipush hX dX5_restore_7 (v := (-1005)) (by decide +kernel) ?_
    exact ev_ireti hX hr dX5_restore_10
def rm_X4_man : Room := { frames := 1, cells := 0, slots := 0, locals := 21 }
set_option maxRecDepth 20000 in
theorem in_X4_man_X4 : ∀ w ∈ u_ws RX4 TX4 7, w ∈ wsX4_man := by decide +kernel
set_option maxHeartbeats 4000000 in
set_option maxRecDepth 100000 in
theorem c_X4_man (l : Launch) (D : va_G) (cI cC : ClassId) (td : Nat → Option Nat) (a1 : Int32) (w : mvW) : ∀ z, f_X4_man a1 w = some z → mv_Ci l D vwCl cI cC tbX td yX4_man wsX4_man rm_X4_man shX w [.inr (.inl 0), .inl a1] z := by
  refine mv_starti (own := RX4) rfl (by decide) rfl rfl (L0 := [some (.inr (.inl 0)), some (.inl a1), none]) rfl (fun p e s m args below meth c A ad0 hX hr => ?_)
  rw [f_X4_man]
  refine ev_iload_n hX dX4_man_0 rfl ?_
  refine ev_callSi hX (As := [.inl a1]) (rm := rm_X4_isSquare) (c_X4_isSquare l D cI cC td a1 w) (cwS 1 hX.ts gX4_man_X4_isSquare rfl rfl rfl (by decide +kernel) ⟨Nat.le_of_ble_eq_true rfl, Nat.le_of_ble_eq_true rfl⟩) rfl rfl rfl ⟨Nat.le_of_ble_eq_true rfl, Nat.le_of_ble_eq_true rfl⟩ dX4_man_1 rfl (fun z1 hz1 => ?_)
  refine ev_if_ne (tgt := 11) hX dX4_man_4 (by decide) ?_ ?_
  · refine ev_aload_n hX dX4_man_11 rfl ?_
    refine ev_getr (k := 0) hX (T := TX4) in_X4_man_X4 rfl rfl rfl (show Cond.fieldLink RX4 12 "FiveShogi" "position" "LFiveShogi$Position;" ∈ _ by decide +kernel) rfl dX4_man_12 ?_
    refine ev_iload_n hX dX4_man_15 rfl ?_
    refine ev_callVi hX (k0 := 1) (As := [.inl a1]) (rm := rm_X2_manOn) (c_X2_manOn l D cI cC td a1 z1.2) (cwV 1 hX.ts gX4_man_X2_manOn rfl rfl rfl (by decide +kernel) ⟨Nat.le_of_ble_eq_true rfl, Nat.le_of_ble_eq_true rfl⟩) rfl rfl rfl rfl rfl rfl ⟨Nat.le_of_ble_eq_true rfl, Nat.le_of_ble_eq_true rfl⟩ dX4_man_16 rfl (fun z2 hz2 => ?_)
    refine ev_istore_n hX dX4_man_19 rfl (L' := [some (.inr (.inl 0)), some (.inl a1), some (.inl z2.1)]) rfl ?_
    refine ev_iload_n hX dX4_man_20 rfl ?_
    refine ev_bipush hX dX4_man_21 (v := 99) (by decide +kernel) ?_
    refine ev_icmp_ne (tgt := 32) hX dX4_man_23 (by decide) ?_ ?_
    · refine ev_iload_n hX dX4_man_32 rfl ?_
      exact ev_ireti hX hr dX4_man_33
    · refine ev_sipush hX dX4_man_26 (v := (-1005)) (by decide +kernel) ?_
      refine ev_goto (tgt := 33) hX dX4_man_29 (by decide) ?_
      exact ev_ireti hX hr dX4_man_33
  · refine ev_sipush hX dX4_man_7 (v := (-1001)) (by decide +kernel) ?_
    exact ev_ireti hX hr dX4_man_10
def rm_X5_man : Room := { frames := 2, cells := 0, slots := 0, locals := 42 }
set_option maxRecDepth 20000 in
theorem in_X5_man_X5 : ∀ w ∈ u_ws RX5 TX5 8, w ∈ wsX5_man := by decide +kernel
set_option maxHeartbeats 4000000 in
set_option maxRecDepth 100000 in
theorem c_X5_man (l : Launch) (D : va_G) (cI cC : ClassId) (td : Nat → Option Nat) (a1 : Int32) (w : mvW) : ∀ z, f_X5_man a1 w = some z → mv_Ci l D vwCl cI cC tbX td yX5_man wsX5_man rm_X5_man shM w [.inr (.inl 0), .inl a1] z := by
  refine mv_starti (own := RX5) rfl (by decide) rfl rfl (L0 := [some (.inr (.inl 0)), some (.inl a1)]) rfl (fun p e s m args below meth c A ad0 hX hr => ?_)
  rw [f_X5_man]
  refine ev_iload_n hX dX5_man_0 rfl ?_
  refine ev_callSi hX (As := [.inl a1]) (rm := rm_X5_isSquare) (c_X5_isSquare l D cI cC td a1 w) (cwS 1 hX.ts gX5_man_X5_isSquare rfl rfl rfl (by decide +kernel) ⟨Nat.le_of_ble_eq_true rfl, Nat.le_of_ble_eq_true rfl⟩) rfl rfl rfl ⟨Nat.le_of_ble_eq_true rfl, Nat.le_of_ble_eq_true rfl⟩ dX5_man_1 rfl (fun z1 hz1 => ?_)
  refine ev_if_ne (tgt := 13) hX dX5_man_4 (by decide) ?_ ?_
  · refine ev_aload_n hX dX5_man_13 rfl ?_
    refine ev_getr (k := 0) hX (T := TX5) in_X5_man_X5 rfl rfl rfl (show Cond.fieldLink RX5 7 "FiveShogiModel" "s" "[I" ∈ _ by decide +kernel) rfl dX5_man_14 ?_
    refine ev_iload_n hX dX5_man_17 rfl ?_
    refine ev_iald hX rfl dX5_man_18 (fun j2 => ?_)
    refine ev_if_ne (tgt := 28) hX dX5_man_19 (by decide) ?_ ?_
    · refine ev_aload_n hX dX5_man_28 rfl ?_
      refine ev_iconst hX dX5_man_29 (v := 0) (by decide +kernel) ?_
      refine ev_iload_n hX dX5_man_30 rfl ?_
      refine ev_callVi hX (k0 := 0) (As := [.inl 0, .inl a1]) (rm := rm_X5_manAt) (c_X5_manAt l D cI cC td 0 a1 z1.2) (cwV 2 hX.ts gX5_man_X5_manAt rfl rfl rfl (by decide +kernel) ⟨Nat.le_of_ble_eq_true rfl, Nat.le_of_ble_eq_true rfl⟩) rfl rfl rfl rfl rfl rfl ⟨Nat.le_of_ble_eq_true rfl, Nat.le_of_ble_eq_true rfl⟩ dX5_man_31 rfl (fun z3 hz3 => ?_)
      exact ev_ireti hX hr dX5_man_34
    · refine ev_sipush hX dX5_man_22 (v := (-1005)) (by decide +kernel) ?_
      refine ev_goto (tgt := 34) hX dX5_man_25 (by decide) ?_
      exact ev_ireti hX hr dX5_man_34
  · refine ev_sipush hX dX5_man_7 (v := (-1001)) (by decide +kernel) ?_
    refine ev_goto (tgt := 34) hX dX5_man_10 (by decide) ?_
    exact ev_ireti hX hr dX5_man_34
def rm_X4_hand : Room := { frames := 2, cells := 0, slots := 0, locals := 42 }
set_option maxRecDepth 20000 in
theorem in_X4_hand_X4 : ∀ w ∈ u_ws RX4 TX4 7, w ∈ wsX4_hand := by decide +kernel
set_option maxHeartbeats 4000000 in
set_option maxRecDepth 100000 in
theorem c_X4_hand (l : Launch) (D : va_G) (cI cC : ClassId) (td : Nat → Option Nat) (a1 : Int32) (a2 : Int32) (w : mvW) : ∀ z, f_X4_hand a1 a2 w = some z → mv_Ci l D vwCl cI cC tbX td yX4_hand wsX4_hand rm_X4_hand shX w [.inr (.inl 0), .inl a1, .inl a2] z := by
  refine mv_starti (own := RX4) rfl (by decide) rfl rfl (L0 := [some (.inr (.inl 0)), some (.inl a1), some (.inl a2)]) rfl (fun p e s m args below meth c A ad0 hX hr => ?_)
  rw [f_X4_hand]
  refine ev_iload_n hX dX4_hand_0 rfl ?_
  refine ev_callSi hX (As := [.inl a1]) (rm := rm_X4_isSide) (c_X4_isSide l D cI cC td a1 w) (cwS 1 hX.ts gX4_hand_X4_isSide rfl rfl rfl (by decide +kernel) ⟨Nat.le_of_ble_eq_true rfl, Nat.le_of_ble_eq_true rfl⟩) rfl rfl rfl ⟨Nat.le_of_ble_eq_true rfl, Nat.le_of_ble_eq_true rfl⟩ dX4_hand_1 rfl (fun z1 hz1 => ?_)
  refine ev_if_eq (tgt := 14) hX dX4_hand_4 (by decide) ?_ ?_
  · refine ev_sipush hX dX4_hand_14 (v := (-1001)) (by decide +kernel) ?_
    exact ev_ireti hX hr dX4_hand_17
  · refine ev_iload_n hX dX4_hand_7 rfl ?_
    refine ev_callSi hX (As := [.inl a2]) (rm := rm_X4_isHandKind) (c_X4_isHandKind l D cI cC td a2 z1.2) (cwS 1 hX.ts gX4_hand_X4_isHandKind rfl rfl rfl (by decide +kernel) ⟨Nat.le_of_ble_eq_true rfl, Nat.le_of_ble_eq_true rfl⟩) rfl rfl rfl ⟨Nat.le_of_ble_eq_true rfl, Nat.le_of_ble_eq_true rfl⟩ dX4_hand_8 rfl (fun z2 hz2 => ?_)
    refine ev_if_ne (tgt := 18) hX dX4_hand_11 (by decide) ?_ ?_
    · refine ev_aload_n hX dX4_hand_18 rfl ?_
      refine ev_getr (k := 0) hX (T := TX4) in_X4_hand_X4 rfl rfl rfl (show Cond.fieldLink RX4 12 "FiveShogi" "position" "LFiveShogi$Position;" ∈ _ by decide +kernel) rfl dX4_hand_19 ?_
      refine ev_iload_n hX dX4_hand_22 rfl ?_
      refine ev_iload_n hX dX4_hand_23 rfl ?_
      refine ev_callVi hX (k0 := 1) (As := [.inl a1, .inl a2]) (rm := rm_X2_inHand) (c_X2_inHand l D cI cC td a1 a2 z2.2) (cwV 2 hX.ts gX4_hand_X2_inHand rfl rfl rfl (by decide +kernel) ⟨Nat.le_of_ble_eq_true rfl, Nat.le_of_ble_eq_true rfl⟩) rfl rfl rfl rfl rfl rfl ⟨Nat.le_of_ble_eq_true rfl, Nat.le_of_ble_eq_true rfl⟩ dX4_hand_24 rfl (fun z3 hz3 => ?_)
      exact ev_ireti hX hr dX4_hand_27
    · refine ev_sipush hX dX4_hand_14 (v := (-1001)) (by decide +kernel) ?_
      exact ev_ireti hX hr dX4_hand_17
def rm_X5_hand : Room := { frames := 2, cells := 0, slots := 0, locals := 42 }
set_option maxRecDepth 20000 in
theorem in_X5_hand_X5 : ∀ w ∈ u_ws RX5 TX5 8, w ∈ wsX5_hand := by decide +kernel
set_option maxHeartbeats 4000000 in
set_option maxRecDepth 100000 in
theorem c_X5_hand (l : Launch) (D : va_G) (cI cC : ClassId) (td : Nat → Option Nat) (a1 : Int32) (a2 : Int32) (w : mvW) : ∀ z, f_X5_hand a1 a2 w = some z → mv_Ci l D vwCl cI cC tbX td yX5_hand wsX5_hand rm_X5_hand shM w [.inr (.inl 0), .inl a1, .inl a2] z := by
  refine mv_starti (own := RX5) rfl (by decide) rfl rfl (L0 := [some (.inr (.inl 0)), some (.inl a1), some (.inl a2)]) rfl (fun p e s m args below meth c A ad0 hX hr => ?_)
  rw [f_X5_hand]
  refine ev_iload_n hX dX5_hand_0 rfl ?_
  refine ev_callSi hX (As := [.inl a1]) (rm := rm_X5_isSide) (c_X5_isSide l D cI cC td a1 w) (cwS 1 hX.ts gX5_hand_X5_isSide rfl rfl rfl (by decide +kernel) ⟨Nat.le_of_ble_eq_true rfl, Nat.le_of_ble_eq_true rfl⟩) rfl rfl rfl ⟨Nat.le_of_ble_eq_true rfl, Nat.le_of_ble_eq_true rfl⟩ dX5_hand_1 rfl (fun z1 hz1 => ?_)
  refine ev_if_eq (tgt := 32) hX dX5_hand_4 (by decide) ?_ ?_
  · refine ev_sipush hX dX5_hand_32 (v := (-1001)) (by decide +kernel) ?_
    exact ev_ireti hX hr dX5_hand_35
  · refine ev_iload_n hX dX5_hand_7 rfl ?_
    refine ev_callSi hX (As := [.inl a2]) (rm := rm_X5_isInHand) (c_X5_isInHand l D cI cC td a2 z1.2) (cwS 1 hX.ts gX5_hand_X5_isInHand rfl rfl rfl (by decide +kernel) ⟨Nat.le_of_ble_eq_true rfl, Nat.le_of_ble_eq_true rfl⟩) rfl rfl rfl ⟨Nat.le_of_ble_eq_true rfl, Nat.le_of_ble_eq_true rfl⟩ dX5_hand_8 rfl (fun z2 hz2 => ?_)
    refine ev_if_eq (tgt := 32) hX dX5_hand_11 (by decide) ?_ ?_
    · refine ev_sipush hX dX5_hand_32 (v := (-1001)) (by decide +kernel) ?_
      exact ev_ireti hX hr dX5_hand_35
    · refine ev_aload_n hX dX5_hand_14 rfl ?_
      refine ev_getr (k := 0) hX (T := TX5) in_X5_hand_X5 rfl rfl rfl (show Cond.fieldLink RX5 7 "FiveShogiModel" "s" "[I" ∈ _ by decide +kernel) rfl dX5_hand_15 ?_
      refine ev_bipush hX dX5_hand_18 (v := 25) (by decide +kernel) ?_
      refine ev_iconst hX dX5_hand_20 (v := 5) (by decide +kernel) ?_
      refine ev_iload_n hX dX5_hand_21 rfl ?_
      refine ev_imul hX dX5_hand_22 ?_
      refine ev_iadd hX dX5_hand_23 ?_
      refine ev_iload_n hX dX5_hand_24 rfl ?_
      refine ev_iadd hX dX5_hand_25 ?_
      refine ev_iconst hX dX5_hand_26 (v := 1) (by decide +kernel) ?_
      refine ev_isub hX dX5_hand_27 ?_
      refine ev_iald hX rfl dX5_hand_28 (fun j3 => ?_)
      refine ev_goto (tgt := 35) hX dX5_hand_29 (by decide) ?_
      exact ev_ireti hX hr dX5_hand_35
def rm_X4_attackers : Room := { frames := 1, cells := 0, slots := 0, locals := 30 }
set_option maxRecDepth 20000 in
theorem in_X4_attackers_X4 : ∀ w ∈ u_ws RX4 TX4 7, w ∈ wsX4_attackers := by decide +kernel
set_option maxHeartbeats 4000000 in
set_option maxRecDepth 100000 in
theorem c_X4_attackers (l : Launch) (D : va_G) (cI cC : ClassId) (td : Nat → Option Nat) (a1 : Int32) (a2 : Int32) (w : mvW) : ∀ z, f_X4_attackers a1 a2 w = some z → mv_Ci l D vwCl cI cC tbX td yX4_attackers wsX4_attackers rm_X4_attackers shX w [.inr (.inl 0), .inl a1, .inl a2] z := by
  refine mv_starti (own := RX4) rfl (by decide) rfl rfl (L0 := [some (.inr (.inl 0)), some (.inl a1), some (.inl a2)]) rfl (fun p e s m args below meth c A ad0 hX hr => ?_)
  rw [f_X4_attackers]
  refine ev_iload_n hX dX4_attackers_0 rfl ?_
  refine ev_callSi hX (As := [.inl a1]) (rm := rm_X4_isSide) (c_X4_isSide l D cI cC td a1 w) (cwS 1 hX.ts gX4_attackers_X4_isSide rfl rfl rfl (by decide +kernel) ⟨Nat.le_of_ble_eq_true rfl, Nat.le_of_ble_eq_true rfl⟩) rfl rfl rfl ⟨Nat.le_of_ble_eq_true rfl, Nat.le_of_ble_eq_true rfl⟩ dX4_attackers_1 rfl (fun z1 hz1 => ?_)
  refine ev_if_eq (tgt := 14) hX dX4_attackers_4 (by decide) ?_ ?_
  · refine ev_sipush hX dX4_attackers_14 (v := (-1001)) (by decide +kernel) ?_
    exact ev_ireti hX hr dX4_attackers_17
  · refine ev_iload_n hX dX4_attackers_7 rfl ?_
    refine ev_callSi hX (As := [.inl a2]) (rm := rm_X4_isSquare) (c_X4_isSquare l D cI cC td a2 z1.2) (cwS 1 hX.ts gX4_attackers_X4_isSquare rfl rfl rfl (by decide +kernel) ⟨Nat.le_of_ble_eq_true rfl, Nat.le_of_ble_eq_true rfl⟩) rfl rfl rfl ⟨Nat.le_of_ble_eq_true rfl, Nat.le_of_ble_eq_true rfl⟩ dX4_attackers_8 rfl (fun z2 hz2 => ?_)
    refine ev_if_ne (tgt := 18) hX dX4_attackers_11 (by decide) ?_ ?_
    · refine ev_aload_n hX dX4_attackers_18 rfl ?_
      refine ev_getr (k := 0) hX (T := TX4) in_X4_attackers_X4 rfl rfl rfl (show Cond.fieldLink RX4 12 "FiveShogi" "position" "LFiveShogi$Position;" ∈ _ by decide +kernel) rfl dX4_attackers_19 ?_
      refine ev_iload_n hX dX4_attackers_22 rfl ?_
      refine ev_iload_n hX dX4_attackers_23 rfl ?_
      refine ev_callVi hX (k0 := 1) (As := [.inl a1, .inl a2]) (rm := rm_X2_countAttackers) (c_X2_countAttackers l D cI cC td a1 a2 z2.2) (cwV 2 hX.ts gX4_attackers_X2_countAttackers rfl rfl rfl (by decide +kernel) ⟨Nat.le_of_ble_eq_true rfl, Nat.le_of_ble_eq_true rfl⟩) rfl rfl rfl rfl rfl rfl ⟨Nat.le_of_ble_eq_true rfl, Nat.le_of_ble_eq_true rfl⟩ dX4_attackers_24 rfl (fun z3 hz3 => ?_)
      exact ev_ireti hX hr dX4_attackers_27
    · refine ev_sipush hX dX4_attackers_14 (v := (-1001)) (by decide +kernel) ?_
      exact ev_ireti hX hr dX4_attackers_17
def rm_X5_attackers : Room := { frames := 4, cells := 0, slots := 0, locals := 104 }
set_option maxHeartbeats 4000000 in
set_option maxRecDepth 100000 in
theorem c_X5_attackers (l : Launch) (D : va_G) (cI cC : ClassId) (td : Nat → Option Nat) (a1 : Int32) (a2 : Int32) (w : mvW) : ∀ z, f_X5_attackers a1 a2 w = some z → mv_Ci l D vwCl cI cC tbX td yX5_attackers wsX5_attackers rm_X5_attackers shM w [.inr (.inl 0), .inl a1, .inl a2] z := by
  refine mv_starti (own := RX5) rfl (by decide) rfl rfl (L0 := [some (.inr (.inl 0)), some (.inl a1), some (.inl a2)]) rfl (fun p e s m args below meth c A ad0 hX hr => ?_)
  rw [f_X5_attackers]
  refine ev_iload_n hX dX5_attackers_0 rfl ?_
  refine ev_callSi hX (As := [.inl a1]) (rm := rm_X5_isSide) (c_X5_isSide l D cI cC td a1 w) (cwS 1 hX.ts gX5_attackers_X5_isSide rfl rfl rfl (by decide +kernel) ⟨Nat.le_of_ble_eq_true rfl, Nat.le_of_ble_eq_true rfl⟩) rfl rfl rfl ⟨Nat.le_of_ble_eq_true rfl, Nat.le_of_ble_eq_true rfl⟩ dX5_attackers_1 rfl (fun z1 hz1 => ?_)
  refine ev_if_eq (tgt := 24) hX dX5_attackers_4 (by decide) ?_ ?_
  · refine ev_sipush hX dX5_attackers_24 (v := (-1001)) (by decide +kernel) ?_
    exact ev_ireti hX hr dX5_attackers_27
  · refine ev_iload_n hX dX5_attackers_7 rfl ?_
    refine ev_callSi hX (As := [.inl a2]) (rm := rm_X5_isSquare) (c_X5_isSquare l D cI cC td a2 z1.2) (cwS 1 hX.ts gX5_attackers_X5_isSquare rfl rfl rfl (by decide +kernel) ⟨Nat.le_of_ble_eq_true rfl, Nat.le_of_ble_eq_true rfl⟩) rfl rfl rfl ⟨Nat.le_of_ble_eq_true rfl, Nat.le_of_ble_eq_true rfl⟩ dX5_attackers_8 rfl (fun z2 hz2 => ?_)
    refine ev_if_eq (tgt := 24) hX dX5_attackers_11 (by decide) ?_ ?_
    · refine ev_sipush hX dX5_attackers_24 (v := (-1001)) (by decide +kernel) ?_
      exact ev_ireti hX hr dX5_attackers_27
    · refine ev_aload_n hX dX5_attackers_14 rfl ?_
      refine ev_iconst hX dX5_attackers_15 (v := 0) (by decide +kernel) ?_
      refine ev_iload_n hX dX5_attackers_16 rfl ?_
      refine ev_iload_n hX dX5_attackers_17 rfl ?_
      refine ev_callVi hX (k0 := 0) (As := [.inl 0, .inl a1, .inl a2]) (rm := rm_X5_attackersOf) (c_X5_attackersOf l D cI cC td 0 a1 a2 z2.2) (cwV 3 hX.ts gX5_attackers_X5_attackersOf rfl rfl rfl (by decide +kernel) ⟨Nat.le_of_ble_eq_true rfl, Nat.le_of_ble_eq_true rfl⟩) rfl rfl rfl rfl rfl rfl ⟨Nat.le_of_ble_eq_true rfl, Nat.le_of_ble_eq_true rfl⟩ dX5_attackers_18 rfl (fun z3 hz3 => ?_)
      refine ev_goto (tgt := 27) hX dX5_attackers_21 (by decide) ?_
      exact ev_ireti hX hr dX5_attackers_27
def rm_X4_attacked : Room := { frames := 2, cells := 0, slots := 0, locals := 49 }
set_option maxRecDepth 20000 in
theorem in_X4_attacked_X4 : ∀ w ∈ u_ws RX4 TX4 7, w ∈ wsX4_attacked := by decide +kernel
set_option maxHeartbeats 4000000 in
set_option maxRecDepth 100000 in
theorem c_X4_attacked (l : Launch) (D : va_G) (cI cC : ClassId) (td : Nat → Option Nat) (a1 : Int32) (w : mvW) : ∀ z, f_X4_attacked a1 w = some z → mv_Ci l D vwCl cI cC tbX td yX4_attacked wsX4_attacked rm_X4_attacked shX w [.inr (.inl 0), .inl a1] z := by
  refine mv_starti (own := RX4) rfl (by decide) rfl rfl (L0 := [some (.inr (.inl 0)), some (.inl a1)]) rfl (fun p e s m args below meth c A ad0 hX hr => ?_)
  rw [f_X4_attacked]
  refine ev_iload_n hX dX4_attacked_0 rfl ?_
  refine ev_callSi hX (As := [.inl a1]) (rm := rm_X4_isSquare) (c_X4_isSquare l D cI cC td a1 w) (cwS 1 hX.ts gX4_attacked_X4_isSquare rfl rfl rfl (by decide +kernel) ⟨Nat.le_of_ble_eq_true rfl, Nat.le_of_ble_eq_true rfl⟩) rfl rfl rfl ⟨Nat.le_of_ble_eq_true rfl, Nat.le_of_ble_eq_true rfl⟩ dX4_attacked_1 rfl (fun z1 hz1 => ?_)
  refine ev_if_ne (tgt := 11) hX dX4_attacked_4 (by decide) ?_ ?_
  · refine ev_aload_n hX dX4_attacked_11 rfl ?_
    refine ev_getr (k := 0) hX (T := TX4) in_X4_attacked_X4 rfl rfl rfl (show Cond.fieldLink RX4 12 "FiveShogi" "position" "LFiveShogi$Position;" ∈ _ by decide +kernel) rfl dX4_attacked_12 ?_
    refine ev_iload_n hX dX4_attacked_15 rfl ?_
    refine ev_callVi hX (k0 := 1) (As := [.inl a1]) (rm := rm_X2_manOn) (c_X2_manOn l D cI cC td a1 z1.2) (cwV 1 hX.ts gX4_attacked_X2_manOn rfl rfl rfl (by decide +kernel) ⟨Nat.le_of_ble_eq_true rfl, Nat.le_of_ble_eq_true rfl⟩) rfl rfl rfl rfl rfl rfl ⟨Nat.le_of_ble_eq_true rfl, Nat.le_of_ble_eq_true rfl⟩ dX4_attacked_16 rfl (fun z2 hz2 => ?_)
    refine ev_bipush hX dX4_attacked_19 (v := 99) (by decide +kernel) ?_
    refine ev_icmp_ne (tgt := 30) hX dX4_attacked_21 (by decide) ?_ ?_
    · refine ev_aload_n hX dX4_attacked_30 rfl ?_
      refine ev_getr (k := 0) hX (T := TX4) in_X4_attacked_X4 rfl rfl rfl (show Cond.fieldLink RX4 12 "FiveShogi" "position" "LFiveShogi$Position;" ∈ _ by decide +kernel) rfl dX4_attacked_31 ?_
      refine ev_iload_n hX dX4_attacked_34 rfl ?_
      refine ev_callVi hX (k0 := 1) (As := [.inl a1]) (rm := rm_X2_attackedFrom) (c_X2_attackedFrom l D cI cC td a1 z2.2) (cwV 1 hX.ts gX4_attacked_X2_attackedFrom rfl rfl rfl (by decide +kernel) ⟨Nat.le_of_ble_eq_true rfl, Nat.le_of_ble_eq_true rfl⟩) rfl rfl rfl rfl rfl rfl ⟨Nat.le_of_ble_eq_true rfl, Nat.le_of_ble_eq_true rfl⟩ dX4_attacked_35 rfl (fun z3 hz3 => ?_)
      exact ev_ireti hX hr dX4_attacked_38
    · refine ev_sipush hX dX4_attacked_24 (v := (-1005)) (by decide +kernel) ?_
      refine ev_goto (tgt := 38) hX dX4_attacked_27 (by decide) ?_
      exact ev_ireti hX hr dX4_attacked_38
  · refine ev_sipush hX dX4_attacked_7 (v := (-1001)) (by decide +kernel) ?_
    exact ev_ireti hX hr dX4_attacked_10
def rm_X5_attacked : Room := { frames := 3, cells := 0, slots := 0, locals := 79 }
set_option maxRecDepth 20000 in
theorem in_X5_attacked_X5 : ∀ w ∈ u_ws RX5 TX5 8, w ∈ wsX5_attacked := by decide +kernel
set_option maxHeartbeats 4000000 in
set_option maxRecDepth 100000 in
theorem c_X5_attacked (l : Launch) (D : va_G) (cI cC : ClassId) (td : Nat → Option Nat) (a1 : Int32) (w : mvW) : ∀ z, f_X5_attacked a1 w = some z → mv_Ci l D vwCl cI cC tbX td yX5_attacked wsX5_attacked rm_X5_attacked shM w [.inr (.inl 0), .inl a1] z := by
  refine mv_starti (own := RX5) rfl (by decide) rfl rfl (L0 := [some (.inr (.inl 0)), some (.inl a1)]) rfl (fun p e s m args below meth c A ad0 hX hr => ?_)
  rw [f_X5_attacked]
  refine ev_iload_n hX dX5_attacked_0 rfl ?_
  refine ev_callSi hX (As := [.inl a1]) (rm := rm_X5_isSquare) (c_X5_isSquare l D cI cC td a1 w) (cwS 1 hX.ts gX5_attacked_X5_isSquare rfl rfl rfl (by decide +kernel) ⟨Nat.le_of_ble_eq_true rfl, Nat.le_of_ble_eq_true rfl⟩) rfl rfl rfl ⟨Nat.le_of_ble_eq_true rfl, Nat.le_of_ble_eq_true rfl⟩ dX5_attacked_1 rfl (fun z1 hz1 => ?_)
  refine ev_if_ne (tgt := 13) hX dX5_attacked_4 (by decide) ?_ ?_
  · refine ev_aload_n hX dX5_attacked_13 rfl ?_
    refine ev_getr (k := 0) hX (T := TX5) in_X5_attacked_X5 rfl rfl rfl (show Cond.fieldLink RX5 7 "FiveShogiModel" "s" "[I" ∈ _ by decide +kernel) rfl dX5_attacked_14 ?_
    refine ev_iload_n hX dX5_attacked_17 rfl ?_
    refine ev_iald hX rfl dX5_attacked_18 (fun j2 => ?_)
    refine ev_if_ne (tgt := 28) hX dX5_attacked_19 (by decide) ?_ ?_
    · refine ev_aload_n hX dX5_attacked_28 rfl ?_
      refine ev_iconst hX dX5_attacked_29 (v := 0) (by decide +kernel) ?_
      refine ev_iload_n hX dX5_attacked_30 rfl ?_
      refine ev_callVi hX (k0 := 0) (As := [.inl 0, .inl a1]) (rm := rm_X5_attacksOf) (c_X5_attacksOf l D cI cC td 0 a1 z1.2) (cwV 2 hX.ts gX5_attacked_X5_attacksOf rfl rfl rfl (by decide +kernel) ⟨Nat.le_of_ble_eq_true rfl, Nat.le_of_ble_eq_true rfl⟩) rfl rfl rfl rfl rfl rfl ⟨Nat.le_of_ble_eq_true rfl, Nat.le_of_ble_eq_true rfl⟩ dX5_attacked_31 rfl (fun z3 hz3 => ?_)
      exact ev_ireti hX hr dX5_attacked_34
    · refine ev_sipush hX dX5_attacked_22 (v := (-1005)) (by decide +kernel) ?_
      refine ev_goto (tgt := 34) hX dX5_attacked_25 (by decide) ?_
      exact ev_ireti hX hr dX5_attacked_34
  · refine ev_sipush hX dX5_attacked_7 (v := (-1001)) (by decide +kernel) ?_
    refine ev_goto (tgt := 34) hX dX5_attacked_10 (by decide) ?_
    exact ev_ireti hX hr dX5_attacked_34
def rm_X3_isMated : Room := { frames := 6, cells := 0, slots := 0, locals := 149 }
set_option maxHeartbeats 4000000 in
set_option maxRecDepth 100000 in
theorem c_X3_isMated (l : Launch) (D : va_G) (cI cC : ClassId) (td : Nat → Option Nat) (w : mvW) : ∀ z, f_X3_isMated w = some z → mv_Ci l D vwCl cI cC tbX td yX3_isMated wsX3_isMated rm_X3_isMated shX w [.inr (.inl 4)] z := by
  refine mv_starti (own := RX3) rfl (by decide) rfl rfl (L0 := [some (.inr (.inl 4))]) rfl (fun p e s m args below meth c A ad0 hX hr => ?_)
  rw [f_X3_isMated]
  refine ev_aload_n hX dX3_isMated_0 rfl ?_
  refine ev_callVi hX (k0 := 4) (As := []) (rm := rm_X3_isInCheck) (c_X3_isInCheck l D cI cC td w) (cwV 0 hX.ts gX3_isMated_X3_isInCheck rfl rfl rfl (by decide +kernel) ⟨Nat.le_of_ble_eq_true rfl, Nat.le_of_ble_eq_true rfl⟩) rfl rfl rfl rfl rfl rfl ⟨Nat.le_of_ble_eq_true rfl, Nat.le_of_ble_eq_true rfl⟩ dX3_isMated_1 rfl (fun z1 hz1 => ?_)
  refine ev_if_eq (tgt := 18) hX dX3_isMated_4 (by decide) ?_ ?_
  · refine ev_iconst hX dX3_isMated_18 (v := 0) (by decide +kernel) ?_
    exact ev_iretz0 hX hr dX3_isMated_19
  · refine ev_aload_n hX dX3_isMated_7 rfl ?_
    refine ev_callVi hX (k0 := 4) (As := []) (rm := rm_X3_findPlays) (c_X3_findPlays l D cI cC td z1.2) (cwV 0 hX.ts gX3_isMated_X3_findPlays rfl rfl rfl (by decide +kernel) ⟨Nat.le_of_ble_eq_true rfl, Nat.le_of_ble_eq_true rfl⟩) rfl rfl rfl rfl rfl rfl ⟨Nat.le_of_ble_eq_true rfl, Nat.le_of_ble_eq_true rfl⟩ dX3_isMated_8 rfl (fun z2 hz2 => ?_)
    refine ev_if_ne (tgt := 18) hX dX3_isMated_11 (by decide) ?_ ?_
    · refine ev_iconst hX dX3_isMated_18 (v := 0) (by decide +kernel) ?_
      exact ev_iretz0 hX hr dX3_isMated_19
    · refine ev_iconst hX dX3_isMated_14 (v := 1) (by decide +kernel) ?_
      refine ev_goto (tgt := 19) hX dX3_isMated_15 (by decide) ?_
      exact ev_iretz1 hX hr dX3_isMated_19
def rm_X2_playsMade : Room := { frames := 0, cells := 0, slots := 0, locals := 0 }
set_option maxRecDepth 20000 in
theorem in_X2_playsMade_X2 : ∀ w ∈ u_ws RX2 TX2 2, w ∈ wsX2_playsMade := by decide +kernel
set_option maxHeartbeats 4000000 in
set_option maxRecDepth 100000 in
theorem c_X2_playsMade (l : Launch) (D : va_G) (cI cC : ClassId) (td : Nat → Option Nat) (w : mvW) : ∀ z, f_X2_playsMade w = some z → mv_Ci l D vwCl cI cC tbX td yX2_playsMade wsX2_playsMade rm_X2_playsMade shX w [.inr (.inl 1)] z := by
  refine mv_starti (own := RX2) rfl (by decide) rfl rfl (L0 := [some (.inr (.inl 1))]) rfl (fun p e s m args below meth c A ad0 hX hr => ?_)
  rw [f_X2_playsMade]
  refine ev_aload_n hX dX2_playsMade_0 rfl ?_
  refine ev_getr (k := 0) hX (T := TX2) in_X2_playsMade_X2 rfl rfl rfl (show Cond.fieldLink RX2 11 "FiveShogi$Position" "state" "[I" ∈ _ by decide +kernel) rfl dX2_playsMade_1 ?_
  refine ev_bipush hX dX2_playsMade_4 (v := 40) (by decide +kernel) ?_
  refine ev_ialdc (j := 40) hX rfl (by decide +kernel) dX2_playsMade_6 ?_
  exact ev_ireti hX hr dX2_playsMade_7
def rm_X2_menTaken : Room := { frames := 0, cells := 0, slots := 0, locals := 0 }
set_option maxRecDepth 20000 in
theorem in_X2_menTaken_X2 : ∀ w ∈ u_ws RX2 TX2 2, w ∈ wsX2_menTaken := by decide +kernel
set_option maxHeartbeats 4000000 in
set_option maxRecDepth 100000 in
theorem c_X2_menTaken (l : Launch) (D : va_G) (cI cC : ClassId) (td : Nat → Option Nat) (w : mvW) : ∀ z, f_X2_menTaken w = some z → mv_Ci l D vwCl cI cC tbX td yX2_menTaken wsX2_menTaken rm_X2_menTaken shX w [.inr (.inl 1)] z := by
  refine mv_starti (own := RX2) rfl (by decide) rfl rfl (L0 := [some (.inr (.inl 1))]) rfl (fun p e s m args below meth c A ad0 hX hr => ?_)
  rw [f_X2_menTaken]
  refine ev_aload_n hX dX2_menTaken_0 rfl ?_
  refine ev_getr (k := 0) hX (T := TX2) in_X2_menTaken_X2 rfl rfl rfl (show Cond.fieldLink RX2 11 "FiveShogi$Position" "state" "[I" ∈ _ by decide +kernel) rfl dX2_menTaken_1 ?_
  refine ev_bipush hX dX2_menTaken_4 (v := 41) (by decide +kernel) ?_
  refine ev_ialdc (j := 41) hX rfl (by decide +kernel) dX2_menTaken_6 ?_
  exact ev_ireti hX hr dX2_menTaken_7
def rm_X2_menPromoted : Room := { frames := 0, cells := 0, slots := 0, locals := 0 }
set_option maxRecDepth 20000 in
theorem in_X2_menPromoted_X2 : ∀ w ∈ u_ws RX2 TX2 2, w ∈ wsX2_menPromoted := by decide +kernel
set_option maxHeartbeats 4000000 in
set_option maxRecDepth 100000 in
theorem c_X2_menPromoted (l : Launch) (D : va_G) (cI cC : ClassId) (td : Nat → Option Nat) (w : mvW) : ∀ z, f_X2_menPromoted w = some z → mv_Ci l D vwCl cI cC tbX td yX2_menPromoted wsX2_menPromoted rm_X2_menPromoted shX w [.inr (.inl 1)] z := by
  refine mv_starti (own := RX2) rfl (by decide) rfl rfl (L0 := [some (.inr (.inl 1))]) rfl (fun p e s m args below meth c A ad0 hX hr => ?_)
  rw [f_X2_menPromoted]
  refine ev_aload_n hX dX2_menPromoted_0 rfl ?_
  refine ev_getr (k := 0) hX (T := TX2) in_X2_menPromoted_X2 rfl rfl rfl (show Cond.fieldLink RX2 11 "FiveShogi$Position" "state" "[I" ∈ _ by decide +kernel) rfl dX2_menPromoted_1 ?_
  refine ev_bipush hX dX2_menPromoted_4 (v := 42) (by decide +kernel) ?_
  refine ev_ialdc (j := 42) hX rfl (by decide +kernel) dX2_menPromoted_6 ?_
  exact ev_ireti hX hr dX2_menPromoted_7
def rm_X2_menDropped : Room := { frames := 0, cells := 0, slots := 0, locals := 0 }
set_option maxRecDepth 20000 in
theorem in_X2_menDropped_X2 : ∀ w ∈ u_ws RX2 TX2 2, w ∈ wsX2_menDropped := by decide +kernel
set_option maxHeartbeats 4000000 in
set_option maxRecDepth 100000 in
theorem c_X2_menDropped (l : Launch) (D : va_G) (cI cC : ClassId) (td : Nat → Option Nat) (w : mvW) : ∀ z, f_X2_menDropped w = some z → mv_Ci l D vwCl cI cC tbX td yX2_menDropped wsX2_menDropped rm_X2_menDropped shX w [.inr (.inl 1)] z := by
  refine mv_starti (own := RX2) rfl (by decide) rfl rfl (L0 := [some (.inr (.inl 1))]) rfl (fun p e s m args below meth c A ad0 hX hr => ?_)
  rw [f_X2_menDropped]
  refine ev_aload_n hX dX2_menDropped_0 rfl ?_
  refine ev_getr (k := 0) hX (T := TX2) in_X2_menDropped_X2 rfl rfl rfl (show Cond.fieldLink RX2 11 "FiveShogi$Position" "state" "[I" ∈ _ by decide +kernel) rfl dX2_menDropped_1 ?_
  refine ev_bipush hX dX2_menDropped_4 (v := 43) (by decide +kernel) ?_
  refine ev_ialdc (j := 43) hX rfl (by decide +kernel) dX2_menDropped_6 ?_
  exact ev_ireti hX hr dX2_menDropped_7
def rm_X4_total : Room := { frames := 7, cells := 0, slots := 0, locals := 169 }
set_option maxRecDepth 20000 in
theorem in_X4_total_X4 : ∀ w ∈ u_ws RX4 TX4 7, w ∈ wsX4_total := by decide +kernel
set_option maxHeartbeats 4000000 in
set_option maxRecDepth 100000 in
theorem c_X4_total (l : Launch) (D : va_G) (cI cC : ClassId) (td : Nat → Option Nat) (a1 : Int32) (w : mvW) : ∀ z, f_X4_total a1 w = some z → mv_Ci l D vwCl cI cC tbX td yX4_total wsX4_total rm_X4_total shX w [.inr (.inl 0), .inl a1] z := by
  refine mv_starti (own := RX4) rfl (by decide) rfl rfl (L0 := [some (.inr (.inl 0)), some (.inl a1)]) rfl (fun p e s m args below meth c A ad0 hX hr => ?_)
  rw [f_X4_total]
  refine ev_iload_n hX dX4_total_0 rfl ?_
  refine ev_case 0 (fun c_1_0 => ?_) (fun c_1_0 => ?_)
  · refine ev_tsIn (tgt := 72) hX dX4_total_1 c_1_0 rfl rfl rfl (by decide) ?_
    refine ev_aload_n hX dX4_total_72 rfl ?_
    refine ev_getr (k := 0) hX (T := TX4) in_X4_total_X4 rfl rfl rfl (show Cond.fieldLink RX4 12 "FiveShogi" "position" "LFiveShogi$Position;" ∈ _ by decide +kernel) rfl dX4_total_73 ?_
    refine ev_callVi hX (k0 := 1) (As := []) (rm := rm_X2_sideToPlay) (c_X2_sideToPlay l D cI cC td w) (cwV 0 hX.ts gX4_total_X2_sideToPlay rfl rfl rfl (by decide +kernel) ⟨Nat.le_of_ble_eq_true rfl, Nat.le_of_ble_eq_true rfl⟩) rfl rfl rfl rfl rfl rfl ⟨Nat.le_of_ble_eq_true rfl, Nat.le_of_ble_eq_true rfl⟩ dX4_total_76 rfl (fun z1 hz1 => ?_)
    exact ev_ireti hX hr dX4_total_79
  · refine ev_case 1 (fun c_1_1 => ?_) (fun c_1_1 => ?_)
    · refine ev_tsIn (tgt := 80) hX dX4_total_1 c_1_1 rfl rfl rfl (by decide) ?_
      refine ev_aload_n hX dX4_total_80 rfl ?_
      refine ev_getr (k := 0) hX (T := TX4) in_X4_total_X4 rfl rfl rfl (show Cond.fieldLink RX4 12 "FiveShogi" "position" "LFiveShogi$Position;" ∈ _ by decide +kernel) rfl dX4_total_81 ?_
      refine ev_callVi hX (k0 := 1) (As := []) (rm := rm_X2_menOnBoard) (c_X2_menOnBoard l D cI cC td w) (cwV 0 hX.ts gX4_total_X2_menOnBoard rfl rfl rfl (by decide +kernel) ⟨Nat.le_of_ble_eq_true rfl, Nat.le_of_ble_eq_true rfl⟩) rfl rfl rfl rfl rfl rfl ⟨Nat.le_of_ble_eq_true rfl, Nat.le_of_ble_eq_true rfl⟩ dX4_total_84 rfl (fun z2 hz2 => ?_)
      exact ev_ireti hX hr dX4_total_87
    · refine ev_case 2 (fun c_1_2 => ?_) (fun c_1_2 => ?_)
      · refine ev_tsIn (tgt := 88) hX dX4_total_1 c_1_2 rfl rfl rfl (by decide) ?_
        refine ev_aload_n hX dX4_total_88 rfl ?_
        refine ev_getr (k := 0) hX (T := TX4) in_X4_total_X4 rfl rfl rfl (show Cond.fieldLink RX4 12 "FiveShogi" "position" "LFiveShogi$Position;" ∈ _ by decide +kernel) rfl dX4_total_89 ?_
        refine ev_iconst hX dX4_total_92 (v := 0) (by decide +kernel) ?_
        refine ev_callVi hX (k0 := 1) (As := [.inl 0]) (rm := rm_X2_menInHand) (c_X2_menInHand l D cI cC td 0 w) (cwV 1 hX.ts gX4_total_X2_menInHand rfl rfl rfl (by decide +kernel) ⟨Nat.le_of_ble_eq_true rfl, Nat.le_of_ble_eq_true rfl⟩) rfl rfl rfl rfl rfl rfl ⟨Nat.le_of_ble_eq_true rfl, Nat.le_of_ble_eq_true rfl⟩ dX4_total_93 rfl (fun z3 hz3 => ?_)
        exact ev_ireti hX hr dX4_total_96
      · refine ev_case 3 (fun c_1_3 => ?_) (fun c_1_3 => ?_)
        · refine ev_tsIn (tgt := 97) hX dX4_total_1 c_1_3 rfl rfl rfl (by decide) ?_
          refine ev_aload_n hX dX4_total_97 rfl ?_
          refine ev_getr (k := 0) hX (T := TX4) in_X4_total_X4 rfl rfl rfl (show Cond.fieldLink RX4 12 "FiveShogi" "position" "LFiveShogi$Position;" ∈ _ by decide +kernel) rfl dX4_total_98 ?_
          refine ev_iconst hX dX4_total_101 (v := 1) (by decide +kernel) ?_
          refine ev_callVi hX (k0 := 1) (As := [.inl 1]) (rm := rm_X2_menInHand) (c_X2_menInHand l D cI cC td 1 w) (cwV 1 hX.ts gX4_total_X2_menInHand rfl rfl rfl (by decide +kernel) ⟨Nat.le_of_ble_eq_true rfl, Nat.le_of_ble_eq_true rfl⟩) rfl rfl rfl rfl rfl rfl ⟨Nat.le_of_ble_eq_true rfl, Nat.le_of_ble_eq_true rfl⟩ dX4_total_102 rfl (fun z4 hz4 => ?_)
          exact ev_ireti hX hr dX4_total_105
        · refine ev_case 4 (fun c_1_4 => ?_) (fun c_1_4 => ?_)
          · refine ev_tsIn (tgt := 106) hX dX4_total_1 c_1_4 rfl rfl rfl (by decide) ?_
            refine ev_aload_n hX dX4_total_106 rfl ?_
            refine ev_getr (k := 1) hX (T := TX4) in_X4_total_X4 rfl rfl rfl (show Cond.fieldLink RX4 21 "FiveShogi" "rules" "LFiveShogi$Rules;" ∈ _ by decide +kernel) rfl dX4_total_107 ?_
            refine ev_callVi hX (k0 := 4) (As := []) (rm := rm_X3_isInCheck) (c_X3_isInCheck l D cI cC td w) (cwV 0 hX.ts gX4_total_X3_isInCheck rfl rfl rfl (by decide +kernel) ⟨Nat.le_of_ble_eq_true rfl, Nat.le_of_ble_eq_true rfl⟩) rfl rfl rfl rfl rfl rfl ⟨Nat.le_of_ble_eq_true rfl, Nat.le_of_ble_eq_true rfl⟩ dX4_total_110 rfl (fun z5 hz5 => ?_)
            refine ev_callSi hX (As := [.inl z5.1]) (rm := rm_X4_asNumber) (c_X4_asNumber l D cI cC td z5.1 z5.2) (cwS 1 hX.ts gX4_total_X4_asNumber rfl rfl rfl (by decide +kernel) ⟨Nat.le_of_ble_eq_true rfl, Nat.le_of_ble_eq_true rfl⟩) rfl rfl rfl ⟨Nat.le_of_ble_eq_true rfl, Nat.le_of_ble_eq_true rfl⟩ dX4_total_113 rfl (fun z6 hz6 => ?_)
            exact ev_ireti hX hr dX4_total_116
          · refine ev_case 5 (fun c_1_5 => ?_) (fun c_1_5 => ?_)
            · refine ev_tsIn (tgt := 117) hX dX4_total_1 c_1_5 rfl rfl rfl (by decide) ?_
              refine ev_aload_n hX dX4_total_117 rfl ?_
              refine ev_getr (k := 1) hX (T := TX4) in_X4_total_X4 rfl rfl rfl (show Cond.fieldLink RX4 21 "FiveShogi" "rules" "LFiveShogi$Rules;" ∈ _ by decide +kernel) rfl dX4_total_118 ?_
              refine ev_callVi hX (k0 := 4) (As := []) (rm := rm_X3_isMated) (c_X3_isMated l D cI cC td w) (cwV 0 hX.ts gX4_total_X3_isMated rfl rfl rfl (by decide +kernel) ⟨Nat.le_of_ble_eq_true rfl, Nat.le_of_ble_eq_true rfl⟩) rfl rfl rfl rfl rfl rfl ⟨Nat.le_of_ble_eq_true rfl, Nat.le_of_ble_eq_true rfl⟩ dX4_total_121 rfl (fun z7 hz7 => ?_)
              refine ev_callSi hX (As := [.inl z7.1]) (rm := rm_X4_asNumber) (c_X4_asNumber l D cI cC td z7.1 z7.2) (cwS 1 hX.ts gX4_total_X4_asNumber rfl rfl rfl (by decide +kernel) ⟨Nat.le_of_ble_eq_true rfl, Nat.le_of_ble_eq_true rfl⟩) rfl rfl rfl ⟨Nat.le_of_ble_eq_true rfl, Nat.le_of_ble_eq_true rfl⟩ dX4_total_124 rfl (fun z8 hz8 => ?_)
              exact ev_ireti hX hr dX4_total_127
            · refine ev_case 6 (fun c_1_6 => ?_) (fun c_1_6 => ?_)
              · refine ev_tsIn (tgt := 128) hX dX4_total_1 c_1_6 rfl rfl rfl (by decide) ?_
                refine ev_aload_n hX dX4_total_128 rfl ?_
                refine ev_getr (k := 1) hX (T := TX4) in_X4_total_X4 rfl rfl rfl (show Cond.fieldLink RX4 21 "FiveShogi" "rules" "LFiveShogi$Rules;" ∈ _ by decide +kernel) rfl dX4_total_129 ?_
                refine ev_callVi hX (k0 := 4) (As := []) (rm := rm_X3_findPlays) (c_X3_findPlays l D cI cC td w) (cwV 0 hX.ts gX4_total_X3_findPlays rfl rfl rfl (by decide +kernel) ⟨Nat.le_of_ble_eq_true rfl, Nat.le_of_ble_eq_true rfl⟩) rfl rfl rfl rfl rfl rfl ⟨Nat.le_of_ble_eq_true rfl, Nat.le_of_ble_eq_true rfl⟩ dX4_total_132 rfl (fun z9 hz9 => ?_)
                refine ev_if_ne (tgt := 142) hX dX4_total_135 (by decide) ?_ ?_
                · refine ev_iconst hX dX4_total_142 (v := 0) (by decide +kernel) ?_
                  refine ev_callSi hX (As := [.inl 0]) (rm := rm_X4_asNumber) (c_X4_asNumber l D cI cC td 0 z9.2) (cwS 1 hX.ts gX4_total_X4_asNumber rfl rfl rfl (by decide +kernel) ⟨Nat.le_of_ble_eq_true rfl, Nat.le_of_ble_eq_true rfl⟩) rfl rfl rfl ⟨Nat.le_of_ble_eq_true rfl, Nat.le_of_ble_eq_true rfl⟩ dX4_total_143 rfl (fun z10 hz10 => ?_)
                  exact ev_ireti hX hr dX4_total_146
                · refine ev_iconst hX dX4_total_138 (v := 1) (by decide +kernel) ?_
                  refine ev_goto (tgt := 143) hX dX4_total_139 (by decide) ?_
                  refine ev_callSi hX (As := [.inl 1]) (rm := rm_X4_asNumber) (c_X4_asNumber l D cI cC td 1 z9.2) (cwS 1 hX.ts gX4_total_X4_asNumber rfl rfl rfl (by decide +kernel) ⟨Nat.le_of_ble_eq_true rfl, Nat.le_of_ble_eq_true rfl⟩) rfl rfl rfl ⟨Nat.le_of_ble_eq_true rfl, Nat.le_of_ble_eq_true rfl⟩ dX4_total_143 rfl (fun z11 hz11 => ?_)
                  exact ev_ireti hX hr dX4_total_146
              · refine ev_case 7 (fun c_1_7 => ?_) (fun c_1_7 => ?_)
                · refine ev_tsIn (tgt := 147) hX dX4_total_1 c_1_7 rfl rfl rfl (by decide) ?_
                  refine ev_aload_n hX dX4_total_147 rfl ?_
                  refine ev_getr (k := 1) hX (T := TX4) in_X4_total_X4 rfl rfl rfl (show Cond.fieldLink RX4 21 "FiveShogi" "rules" "LFiveShogi$Rules;" ∈ _ by decide +kernel) rfl dX4_total_148 ?_
                  refine ev_callVi hX (k0 := 4) (As := []) (rm := rm_X3_findPlays) (c_X3_findPlays l D cI cC td w) (cwV 0 hX.ts gX4_total_X3_findPlays rfl rfl rfl (by decide +kernel) ⟨Nat.le_of_ble_eq_true rfl, Nat.le_of_ble_eq_true rfl⟩) rfl rfl rfl rfl rfl rfl ⟨Nat.le_of_ble_eq_true rfl, Nat.le_of_ble_eq_true rfl⟩ dX4_total_151 rfl (fun z12 hz12 => ?_)
                  exact ev_ireti hX hr dX4_total_154
                · refine ev_case 8 (fun c_1_8 => ?_) (fun c_1_8 => ?_)
                  · refine ev_tsIn (tgt := 155) hX dX4_total_1 c_1_8 rfl rfl rfl (by decide) ?_
                    refine ev_aload_n hX dX4_total_155 rfl ?_
                    refine ev_getr (k := 0) hX (T := TX4) in_X4_total_X4 rfl rfl rfl (show Cond.fieldLink RX4 12 "FiveShogi" "position" "LFiveShogi$Position;" ∈ _ by decide +kernel) rfl dX4_total_156 ?_
                    refine ev_callVi hX (k0 := 1) (As := []) (rm := rm_X2_playsMade) (c_X2_playsMade l D cI cC td w) (cwV 0 hX.ts gX4_total_X2_playsMade rfl rfl rfl (by decide +kernel) ⟨Nat.le_of_ble_eq_true rfl, Nat.le_of_ble_eq_true rfl⟩) rfl rfl rfl rfl rfl rfl ⟨Nat.le_of_ble_eq_true rfl, Nat.le_of_ble_eq_true rfl⟩ dX4_total_159 rfl (fun z13 hz13 => ?_)
                    exact ev_ireti hX hr dX4_total_162
                  · refine ev_case 9 (fun c_1_9 => ?_) (fun c_1_9 => ?_)
                    · refine ev_tsIn (tgt := 163) hX dX4_total_1 c_1_9 rfl rfl rfl (by decide) ?_
                      refine ev_aload_n hX dX4_total_163 rfl ?_
                      refine ev_getr (k := 0) hX (T := TX4) in_X4_total_X4 rfl rfl rfl (show Cond.fieldLink RX4 12 "FiveShogi" "position" "LFiveShogi$Position;" ∈ _ by decide +kernel) rfl dX4_total_164 ?_
                      refine ev_callVi hX (k0 := 1) (As := []) (rm := rm_X2_menTaken) (c_X2_menTaken l D cI cC td w) (cwV 0 hX.ts gX4_total_X2_menTaken rfl rfl rfl (by decide +kernel) ⟨Nat.le_of_ble_eq_true rfl, Nat.le_of_ble_eq_true rfl⟩) rfl rfl rfl rfl rfl rfl ⟨Nat.le_of_ble_eq_true rfl, Nat.le_of_ble_eq_true rfl⟩ dX4_total_167 rfl (fun z14 hz14 => ?_)
                      exact ev_ireti hX hr dX4_total_170
                    · refine ev_case 10 (fun c_1_10 => ?_) (fun c_1_10 => ?_)
                      · refine ev_tsIn (tgt := 171) hX dX4_total_1 c_1_10 rfl rfl rfl (by decide) ?_
                        refine ev_aload_n hX dX4_total_171 rfl ?_
                        refine ev_getr (k := 0) hX (T := TX4) in_X4_total_X4 rfl rfl rfl (show Cond.fieldLink RX4 12 "FiveShogi" "position" "LFiveShogi$Position;" ∈ _ by decide +kernel) rfl dX4_total_172 ?_
                        refine ev_callVi hX (k0 := 1) (As := []) (rm := rm_X2_menPromoted) (c_X2_menPromoted l D cI cC td w) (cwV 0 hX.ts gX4_total_X2_menPromoted rfl rfl rfl (by decide +kernel) ⟨Nat.le_of_ble_eq_true rfl, Nat.le_of_ble_eq_true rfl⟩) rfl rfl rfl rfl rfl rfl ⟨Nat.le_of_ble_eq_true rfl, Nat.le_of_ble_eq_true rfl⟩ dX4_total_175 rfl (fun z15 hz15 => ?_)
                        exact ev_ireti hX hr dX4_total_178
                      · refine ev_case 11 (fun c_1_11 => ?_) (fun c_1_11 => ?_)
                        · refine ev_tsIn (tgt := 179) hX dX4_total_1 c_1_11 rfl rfl rfl (by decide) ?_
                          refine ev_aload_n hX dX4_total_179 rfl ?_
                          refine ev_getr (k := 0) hX (T := TX4) in_X4_total_X4 rfl rfl rfl (show Cond.fieldLink RX4 12 "FiveShogi" "position" "LFiveShogi$Position;" ∈ _ by decide +kernel) rfl dX4_total_180 ?_
                          refine ev_callVi hX (k0 := 1) (As := []) (rm := rm_X2_menDropped) (c_X2_menDropped l D cI cC td w) (cwV 0 hX.ts gX4_total_X2_menDropped rfl rfl rfl (by decide +kernel) ⟨Nat.le_of_ble_eq_true rfl, Nat.le_of_ble_eq_true rfl⟩) rfl rfl rfl rfl rfl rfl ⟨Nat.le_of_ble_eq_true rfl, Nat.le_of_ble_eq_true rfl⟩ dX4_total_183 rfl (fun z16 hz16 => ?_)
                          exact ev_ireti hX hr dX4_total_186
                        · refine ev_case 12 (fun c_1_12 => ?_) (fun c_1_12 => ?_)
                          · refine ev_tsIn (tgt := 187) hX dX4_total_1 c_1_12 rfl rfl rfl (by decide) ?_
                            refine ev_aload_n hX dX4_total_187 rfl ?_
                            refine ev_getr (k := 2) hX (T := TX4) in_X4_total_X4 rfl rfl rfl (show Cond.fieldLink RX4 28 "FiveShogi" "history" "LFiveShogi$History;" ∈ _ by decide +kernel) rfl dX4_total_188 ?_
                            refine ev_callVi hX (k0 := 9) (As := []) (rm := rm_X0_size) (c_X0_size l D cI cC td w) (cwV 0 hX.ts gX4_total_X0_size rfl rfl rfl (by decide +kernel) ⟨Nat.le_of_ble_eq_true rfl, Nat.le_of_ble_eq_true rfl⟩) rfl rfl rfl rfl rfl rfl ⟨Nat.le_of_ble_eq_true rfl, Nat.le_of_ble_eq_true rfl⟩ dX4_total_191 rfl (fun z17 hz17 => ?_)
                            exact ev_ireti hX hr dX4_total_194
                          · refine ev_case 13 (fun c_1_13 => ?_) (fun c_1_13 => ?_)
                            · refine ev_tsIn (tgt := 195) hX dX4_total_1 c_1_13 rfl rfl rfl (by decide) ?_
                              refine ev_aload_n hX dX4_total_195 rfl ?_
                              refine ev_getr (k := 3) hX (T := TX4) in_X4_total_X4 rfl rfl rfl (show Cond.fieldLink RX4 35 "FiveShogi" "text" "LFiveShogi$PlayText;" ∈ _ by decide +kernel) rfl dX4_total_196 ?_
                              refine ev_callVi hX (k0 := 11) (As := []) (rm := rm_X1_size) (c_X1_size l D cI cC td w) (cwV 0 hX.ts gX4_total_X1_size rfl rfl rfl (by decide +kernel) ⟨Nat.le_of_ble_eq_true rfl, Nat.le_of_ble_eq_true rfl⟩) rfl rfl rfl rfl rfl rfl ⟨Nat.le_of_ble_eq_true rfl, Nat.le_of_ble_eq_true rfl⟩ dX4_total_199 rfl (fun z18 hz18 => ?_)
                              exact ev_ireti hX hr dX4_total_202
                            · refine ev_tsOut (tgt := 203) hX dX4_total_1 (mv_swout 0 14 (lt_s (lt_s (lt_s (lt_s (lt_s (lt_s (lt_s (lt_s (lt_s (lt_s (lt_s (lt_s (lt_s (lt_s lt_0 c_1_0) c_1_1) c_1_2) c_1_3) c_1_4) c_1_5) c_1_6) c_1_7) c_1_8) c_1_9) c_1_10) c_1_11) c_1_12) c_1_13) (by decide) (by decide) (by decide)) (by decide) ?_
                              refine ev_sipush hX dX4_total_203 (v := (-1002)) (by decide +kernel) ?_
                              exact ev_ireti hX hr dX4_total_206
def rm_X5_isMated : Room := { frames := 8, cells := 0, slots := 0, locals := 198 }
set_option maxRecDepth 20000 in
theorem in_X5_isMated_X5 : ∀ w ∈ u_ws RX5 TX5 8, w ∈ wsX5_isMated := by decide +kernel
set_option maxHeartbeats 4000000 in
set_option maxRecDepth 100000 in
theorem c_X5_isMated (l : Launch) (D : va_G) (cI cC : ClassId) (td : Nat → Option Nat) (a1 : Int32) (w : mvW) : ∀ z, f_X5_isMated a1 w = some z → mv_Ci l D vwCl cI cC tbX td yX5_isMated wsX5_isMated rm_X5_isMated shM w [.inr (.inl 0), .inl a1] z := by
  refine mv_starti (own := RX5) rfl (by decide) rfl rfl (L0 := [some (.inr (.inl 0)), some (.inl a1)]) rfl (fun p e s m args below meth c A ad0 hX hr => ?_)
  rw [f_X5_isMated]
  refine ev_aload_n hX dX5_isMated_0 rfl ?_
  refine ev_iload_n hX dX5_isMated_1 rfl ?_
  refine ev_aload_n hX dX5_isMated_2 rfl ?_
  refine ev_getr (k := 0) hX (T := TX5) in_X5_isMated_X5 rfl rfl rfl (show Cond.fieldLink RX5 7 "FiveShogiModel" "s" "[I" ∈ _ by decide +kernel) rfl dX5_isMated_3 ?_
  refine ev_iload_n hX dX5_isMated_6 rfl ?_
  refine ev_bipush hX dX5_isMated_7 (v := 35) (by decide +kernel) ?_
  refine ev_iadd hX dX5_isMated_9 ?_
  refine ev_iald hX rfl dX5_isMated_10 (fun j1 => ?_)
  refine ev_callVi hX (k0 := 0) (As := [.inl a1, .inl (w 1 j1)]) (rm := rm_X5_isInCheck) (c_X5_isInCheck l D cI cC td a1 (w 1 j1) w) (cwV 2 hX.ts gX5_isMated_X5_isInCheck rfl rfl rfl (by decide +kernel) ⟨Nat.le_of_ble_eq_true rfl, Nat.le_of_ble_eq_true rfl⟩) rfl rfl rfl rfl rfl rfl ⟨Nat.le_of_ble_eq_true rfl, Nat.le_of_ble_eq_true rfl⟩ dX5_isMated_11 rfl (fun z2 hz2 => ?_)
  refine ev_if_eq (tgt := 29) hX dX5_isMated_14 (by decide) ?_ ?_
  · refine ev_iconst hX dX5_isMated_29 (v := 0) (by decide +kernel) ?_
    exact ev_iretz0 hX hr dX5_isMated_30
  · refine ev_aload_n hX dX5_isMated_17 rfl ?_
    refine ev_iload_n hX dX5_isMated_18 rfl ?_
    refine ev_callVi hX (k0 := 0) (As := [.inl a1]) (rm := rm_X5_plays) (c_X5_plays l D cI cC td a1 z2.2) (cwV 1 hX.ts gX5_isMated_X5_plays rfl rfl rfl (by decide +kernel) ⟨Nat.le_of_ble_eq_true rfl, Nat.le_of_ble_eq_true rfl⟩) rfl rfl rfl rfl rfl rfl ⟨Nat.le_of_ble_eq_true rfl, Nat.le_of_ble_eq_true rfl⟩ dX5_isMated_19 rfl (fun z3 hz3 => ?_)
    refine ev_if_ne (tgt := 29) hX dX5_isMated_22 (by decide) ?_ ?_
    · refine ev_iconst hX dX5_isMated_29 (v := 0) (by decide +kernel) ?_
      exact ev_iretz0 hX hr dX5_isMated_30
    · refine ev_iconst hX dX5_isMated_25 (v := 1) (by decide +kernel) ?_
      refine ev_goto (tgt := 30) hX dX5_isMated_26 (by decide) ?_
      exact ev_iretz1 hX hr dX5_isMated_30
def rm_X5_total : Room := { frames := 9, cells := 0, slots := 0, locals := 219 }
set_option maxRecDepth 20000 in
theorem in_X5_total_X5 : ∀ w ∈ u_ws RX5 TX5 8, w ∈ wsX5_total := by decide +kernel
set_option maxHeartbeats 4000000 in
set_option maxRecDepth 100000 in
theorem e_X5_total_148 (hX : mv_X p s m args meth c D vwCl cI cC tbX td A cX5_total 2 RX5 wsX5_total) (hr : meth.sig.returnType = (some .int)) (x1 : Int32) (w : mvW) : EV p l e (headSpec wsX5_total rm_X5_total).room s m args below meth c D vwCl cI cC td A (fun a => a = ad0) (mv_Qi below args s D vwCl cI cC shM ad0 A) 0 0 shM [some (.inr (.inl 0)), some (.inl x1)] [] 148 w (f_X5_total_148 x1 w) := by
  rw [f_X5_total_148]
  refine ev_aload_n hX dX5_total_148 rfl ?_
  refine ev_getr (k := 0) hX (T := TX5) in_X5_total_X5 rfl rfl rfl (show Cond.fieldLink RX5 7 "FiveShogiModel" "s" "[I" ∈ _ by decide +kernel) rfl dX5_total_149 ?_
  refine ev_bipush hX dX5_total_152 (v := 36) (by decide +kernel) ?_
  refine ev_iload_n hX dX5_total_154 rfl ?_
  refine ev_iadd hX dX5_total_155 ?_
  refine ev_bipush hX dX5_total_156 (v := 8) (by decide +kernel) ?_
  refine ev_isub hX dX5_total_158 ?_
  refine ev_iald hX rfl dX5_total_159 (fun j8 => ?_)
  exact ev_ireti hX hr dX5_total_160
set_option maxHeartbeats 4000000 in
set_option maxRecDepth 100000 in
theorem c_X5_total (l : Launch) (D : va_G) (cI cC : ClassId) (td : Nat → Option Nat) (a1 : Int32) (w : mvW) : ∀ z, f_X5_total a1 w = some z → mv_Ci l D vwCl cI cC tbX td yX5_total wsX5_total rm_X5_total shM w [.inr (.inl 0), .inl a1] z := by
  refine mv_starti (own := RX5) rfl (by decide) rfl rfl (L0 := [some (.inr (.inl 0)), some (.inl a1)]) rfl (fun p e s m args below meth c A ad0 hX hr => ?_)
  rw [f_X5_total]
  refine ev_iload_n hX dX5_total_0 rfl ?_
  refine ev_case 0 (fun c_1_0 => ?_) (fun c_1_0 => ?_)
  · refine ev_tsIn (tgt := 72) hX dX5_total_1 c_1_0 rfl rfl rfl (by decide) ?_
    refine ev_aload_n hX dX5_total_72 rfl ?_
    refine ev_getr (k := 0) hX (T := TX5) in_X5_total_X5 rfl rfl rfl (show Cond.fieldLink RX5 7 "FiveShogiModel" "s" "[I" ∈ _ by decide +kernel) rfl dX5_total_73 ?_
    refine ev_bipush hX dX5_total_76 (v := 35) (by decide +kernel) ?_
    refine ev_ialdc (j := 35) hX rfl (by decide +kernel) dX5_total_78 ?_
    exact ev_ireti hX hr dX5_total_79
  · refine ev_case 1 (fun c_1_1 => ?_) (fun c_1_1 => ?_)
    · refine ev_tsIn (tgt := 80) hX dX5_total_1 c_1_1 rfl rfl rfl (by decide) ?_
      refine ev_aload_n hX dX5_total_80 rfl ?_
      refine ev_callVi hX (k0 := 0) (As := []) (rm := rm_X5_onBoard) (c_X5_onBoard l D cI cC td w) (cwV 0 hX.ts gX5_total_X5_onBoard rfl rfl rfl (by decide +kernel) ⟨Nat.le_of_ble_eq_true rfl, Nat.le_of_ble_eq_true rfl⟩) rfl rfl rfl rfl rfl rfl ⟨Nat.le_of_ble_eq_true rfl, Nat.le_of_ble_eq_true rfl⟩ dX5_total_81 rfl (fun z1 hz1 => ?_)
      exact ev_ireti hX hr dX5_total_84
    · refine ev_case 2 (fun c_1_2 => ?_) (fun c_1_2 => ?_)
      · refine ev_tsIn (tgt := 85) hX dX5_total_1 c_1_2 rfl rfl rfl (by decide) ?_
        refine ev_aload_n hX dX5_total_85 rfl ?_
        refine ev_iload_n hX dX5_total_86 rfl ?_
        refine ev_iconst hX dX5_total_87 (v := 2) (by decide +kernel) ?_
        refine ev_isub hX dX5_total_88 ?_
        refine ev_callVi hX (k0 := 0) (As := [.inl (a1 - 2)]) (rm := rm_X5_inHand) (c_X5_inHand l D cI cC td (a1 - 2) w) (cwV 1 hX.ts gX5_total_X5_inHand rfl rfl rfl (by decide +kernel) ⟨Nat.le_of_ble_eq_true rfl, Nat.le_of_ble_eq_true rfl⟩) rfl rfl rfl rfl rfl rfl ⟨Nat.le_of_ble_eq_true rfl, Nat.le_of_ble_eq_true rfl⟩ dX5_total_89 rfl (fun z2 hz2 => ?_)
        exact ev_ireti hX hr dX5_total_92
      · refine ev_case 3 (fun c_1_3 => ?_) (fun c_1_3 => ?_)
        · refine ev_tsIn (tgt := 85) hX dX5_total_1 c_1_3 rfl rfl rfl (by decide) ?_
          refine ev_aload_n hX dX5_total_85 rfl ?_
          refine ev_iload_n hX dX5_total_86 rfl ?_
          refine ev_iconst hX dX5_total_87 (v := 2) (by decide +kernel) ?_
          refine ev_isub hX dX5_total_88 ?_
          refine ev_callVi hX (k0 := 0) (As := [.inl (a1 - 2)]) (rm := rm_X5_inHand) (c_X5_inHand l D cI cC td (a1 - 2) w) (cwV 1 hX.ts gX5_total_X5_inHand rfl rfl rfl (by decide +kernel) ⟨Nat.le_of_ble_eq_true rfl, Nat.le_of_ble_eq_true rfl⟩) rfl rfl rfl rfl rfl rfl ⟨Nat.le_of_ble_eq_true rfl, Nat.le_of_ble_eq_true rfl⟩ dX5_total_89 rfl (fun z3 hz3 => ?_)
          exact ev_ireti hX hr dX5_total_92
        · refine ev_case 4 (fun c_1_4 => ?_) (fun c_1_4 => ?_)
          · refine ev_tsIn (tgt := 93) hX dX5_total_1 c_1_4 rfl rfl rfl (by decide) ?_
            refine ev_aload_n hX dX5_total_93 rfl ?_
            refine ev_iconst hX dX5_total_94 (v := 0) (by decide +kernel) ?_
            refine ev_aload_n hX dX5_total_95 rfl ?_
            refine ev_getr (k := 0) hX (T := TX5) in_X5_total_X5 rfl rfl rfl (show Cond.fieldLink RX5 7 "FiveShogiModel" "s" "[I" ∈ _ by decide +kernel) rfl dX5_total_96 ?_
            refine ev_bipush hX dX5_total_99 (v := 35) (by decide +kernel) ?_
            refine ev_ialdc (j := 35) hX rfl (by decide +kernel) dX5_total_101 ?_
            refine ev_callVi hX (k0 := 0) (As := [.inl 0, .inl (w 1 35)]) (rm := rm_X5_isInCheck) (c_X5_isInCheck l D cI cC td 0 (w 1 35) w) (cwV 2 hX.ts gX5_total_X5_isInCheck rfl rfl rfl (by decide +kernel) ⟨Nat.le_of_ble_eq_true rfl, Nat.le_of_ble_eq_true rfl⟩) rfl rfl rfl rfl rfl rfl ⟨Nat.le_of_ble_eq_true rfl, Nat.le_of_ble_eq_true rfl⟩ dX5_total_102 rfl (fun z4 hz4 => ?_)
            refine ev_if_eq (tgt := 112) hX dX5_total_105 (by decide) ?_ ?_
            · refine ev_iconst hX dX5_total_112 (v := 0) (by decide +kernel) ?_
              exact ev_ireti hX hr dX5_total_113
            · refine ev_iconst hX dX5_total_108 (v := 1) (by decide +kernel) ?_
              refine ev_goto (tgt := 113) hX dX5_total_109 (by decide) ?_
              exact ev_ireti hX hr dX5_total_113
          · refine ev_case 5 (fun c_1_5 => ?_) (fun c_1_5 => ?_)
            · refine ev_tsIn (tgt := 114) hX dX5_total_1 c_1_5 rfl rfl rfl (by decide) ?_
              refine ev_aload_n hX dX5_total_114 rfl ?_
              refine ev_iconst hX dX5_total_115 (v := 0) (by decide +kernel) ?_
              refine ev_callVi hX (k0 := 0) (As := [.inl 0]) (rm := rm_X5_isMated) (c_X5_isMated l D cI cC td 0 w) (cwV 1 hX.ts gX5_total_X5_isMated rfl rfl rfl (by decide +kernel) ⟨Nat.le_of_ble_eq_true rfl, Nat.le_of_ble_eq_true rfl⟩) rfl rfl rfl rfl rfl rfl ⟨Nat.le_of_ble_eq_true rfl, Nat.le_of_ble_eq_true rfl⟩ dX5_total_116 rfl (fun z5 hz5 => ?_)
              refine ev_if_eq (tgt := 126) hX dX5_total_119 (by decide) ?_ ?_
              · refine ev_iconst hX dX5_total_126 (v := 0) (by decide +kernel) ?_
                exact ev_ireti hX hr dX5_total_127
              · refine ev_iconst hX dX5_total_122 (v := 1) (by decide +kernel) ?_
                refine ev_goto (tgt := 127) hX dX5_total_123 (by decide) ?_
                exact ev_ireti hX hr dX5_total_127
            · refine ev_case 6 (fun c_1_6 => ?_) (fun c_1_6 => ?_)
              · refine ev_tsIn (tgt := 128) hX dX5_total_1 c_1_6 rfl rfl rfl (by decide) ?_
                refine ev_aload_n hX dX5_total_128 rfl ?_
                refine ev_iconst hX dX5_total_129 (v := 0) (by decide +kernel) ?_
                refine ev_callVi hX (k0 := 0) (As := [.inl 0]) (rm := rm_X5_plays) (c_X5_plays l D cI cC td 0 w) (cwV 1 hX.ts gX5_total_X5_plays rfl rfl rfl (by decide +kernel) ⟨Nat.le_of_ble_eq_true rfl, Nat.le_of_ble_eq_true rfl⟩) rfl rfl rfl rfl rfl rfl ⟨Nat.le_of_ble_eq_true rfl, Nat.le_of_ble_eq_true rfl⟩ dX5_total_130 rfl (fun z6 hz6 => ?_)
                refine ev_if_ne (tgt := 140) hX dX5_total_133 (by decide) ?_ ?_
                · refine ev_iconst hX dX5_total_140 (v := 0) (by decide +kernel) ?_
                  exact ev_ireti hX hr dX5_total_141
                · refine ev_iconst hX dX5_total_136 (v := 1) (by decide +kernel) ?_
                  refine ev_goto (tgt := 141) hX dX5_total_137 (by decide) ?_
                  exact ev_ireti hX hr dX5_total_141
              · refine ev_case 7 (fun c_1_7 => ?_) (fun c_1_7 => ?_)
                · refine ev_tsIn (tgt := 142) hX dX5_total_1 c_1_7 rfl rfl rfl (by decide) ?_
                  refine ev_aload_n hX dX5_total_142 rfl ?_
                  refine ev_iconst hX dX5_total_143 (v := 0) (by decide +kernel) ?_
                  refine ev_callVi hX (k0 := 0) (As := [.inl 0]) (rm := rm_X5_plays) (c_X5_plays l D cI cC td 0 w) (cwV 1 hX.ts gX5_total_X5_plays rfl rfl rfl (by decide +kernel) ⟨Nat.le_of_ble_eq_true rfl, Nat.le_of_ble_eq_true rfl⟩) rfl rfl rfl rfl rfl rfl ⟨Nat.le_of_ble_eq_true rfl, Nat.le_of_ble_eq_true rfl⟩ dX5_total_144 rfl (fun z7 hz7 => ?_)
                  exact ev_ireti hX hr dX5_total_147
                · refine ev_case 8 (fun c_1_8 => ?_) (fun c_1_8 => ?_)
                  · refine ev_tsIn (tgt := 148) hX dX5_total_1 c_1_8 rfl rfl rfl (by decide) ?_
                    refine ev_mask [true, true] (L' := [some (.inr (.inl 0)), some (.inl a1)]) rfl rfl ?_
                    exact e_X5_total_148 hX hr a1 w
                  · refine ev_case 9 (fun c_1_9 => ?_) (fun c_1_9 => ?_)
                    · refine ev_tsIn (tgt := 148) hX dX5_total_1 c_1_9 rfl rfl rfl (by decide) ?_
                      refine ev_mask [true, true] (L' := [some (.inr (.inl 0)), some (.inl a1)]) rfl rfl ?_
                      exact e_X5_total_148 hX hr a1 w
                    · refine ev_case 10 (fun c_1_10 => ?_) (fun c_1_10 => ?_)
                      · refine ev_tsIn (tgt := 148) hX dX5_total_1 c_1_10 rfl rfl rfl (by decide) ?_
                        refine ev_mask [true, true] (L' := [some (.inr (.inl 0)), some (.inl a1)]) rfl rfl ?_
                        exact e_X5_total_148 hX hr a1 w
                      · refine ev_case 11 (fun c_1_11 => ?_) (fun c_1_11 => ?_)
                        · refine ev_tsIn (tgt := 148) hX dX5_total_1 c_1_11 rfl rfl rfl (by decide) ?_
                          refine ev_mask [true, true] (L' := [some (.inr (.inl 0)), some (.inl a1)]) rfl rfl ?_
                          exact e_X5_total_148 hX hr a1 w
                        · refine ev_case 12 (fun c_1_12 => ?_) (fun c_1_12 => ?_)
                          · refine ev_tsIn (tgt := 161) hX dX5_total_1 c_1_12 rfl rfl rfl (by decide) ?_
                            refine ev_aload_n hX dX5_total_161 rfl ?_
                            refine ev_get (k := 3) hX (T := TX5) in_X5_total_X5 rfl rfl rfl (show Cond.fieldLink RX5 29 "FiveShogiModel" "known" "I" ∈ _ by decide +kernel) rfl dX5_total_162 ?_
                            exact ev_ireti hX hr dX5_total_165
                          · refine ev_case 13 (fun c_1_13 => ?_) (fun c_1_13 => ?_)
                            · refine ev_tsIn (tgt := 166) hX dX5_total_1 c_1_13 rfl rfl rfl (by decide) ?_
                              refine ev_aload_n hX dX5_total_166 rfl ?_
                              refine ev_get (k := 7) hX (T := TX5) in_X5_total_X5 rfl rfl rfl (show Cond.fieldLink RX5 132 "FiveShogiModel" "length" "I" ∈ _ by decide +kernel) rfl dX5_total_167 ?_
                              exact ev_ireti hX hr dX5_total_170
                            · refine ev_tsOut (tgt := 171) hX dX5_total_1 (mv_swout 0 14 (lt_s (lt_s (lt_s (lt_s (lt_s (lt_s (lt_s (lt_s (lt_s (lt_s (lt_s (lt_s (lt_s (lt_s lt_0 c_1_0) c_1_1) c_1_2) c_1_3) c_1_4) c_1_5) c_1_6) c_1_7) c_1_8) c_1_9) c_1_10) c_1_11) c_1_12) c_1_13) (by decide) (by decide) (by decide)) (by decide) ?_
                              refine ev_sipush hX dX5_total_171 (v := (-1002)) (by decide +kernel) ?_
                              exact ev_ireti hX hr dX5_total_174
def rm_X2_worthFor : Room := { frames := 2, cells := 0, slots := 0, locals := 42 }
set_option maxRecDepth 20000 in
theorem in_X2_worthFor_X2 : ∀ w ∈ u_ws RX2 TX2 2, w ∈ wsX2_worthFor := by decide +kernel
set_option maxHeartbeats 4000000 in
set_option maxRecDepth 100000 in
theorem e_X2_worthFor_82 (hX : mv_X p s m args meth c D vwCl cI cC tbX td A cX2_worthFor 6 RX2 wsX2_worthFor) (hr : meth.sig.returnType = (some .int)) : ∀ (n : Nat) (x1 : Int32) (x2 : Int32) (x3 : Int32) (w : mvW), EV p l e (headSpec wsX2_worthFor rm_X2_worthFor).room s m args below meth c D vwCl cI cC td A (fun a => a = ad0) (mv_Qi below args s D vwCl cI cC shX ad0 A) 0 0 shX [some (.inr (.inl 1)), some (.inl x1), some (.inl x2), some (.inl x3), none, none] [] 82 w (f_X2_worthFor_82 n x1 x2 x3 w) := by
  intro n
  induction n with
  | zero => intro x1 x2 x3 w; exact ev_none
  | succ n ih =>
    intro x1 x2 x3 w
    rw [f_X2_worthFor_82]
    refine ev_iload_n hX dX2_worthFor_82 rfl ?_
    refine ev_iconst hX dX2_worthFor_83 (v := 5) (by decide +kernel) ?_
    refine ev_icmp_gt (tgt := 127) hX dX2_worthFor_84 (by decide) ?_ ?_
    · refine ev_iload_n hX dX2_worthFor_127 rfl ?_
      exact ev_ireti hX hr dX2_worthFor_128
    · refine ev_iload_n hX dX2_worthFor_87 rfl ?_
      refine ev_getsN (j := 4) (host := "FiveShogi") hX rfl (List.mem_of_getElem? (i := 3) rfl) dX2_worthFor_88 ?_
      refine ev_tlen hX rfl (v := 10) (by decide +kernel) dX2_worthFor_91 ?_
      refine ev_icmp_ge (tgt := 127) hX dX2_worthFor_92 (by decide) ?_ ?_
      · refine ev_iload_n hX dX2_worthFor_127 rfl ?_
        exact ev_ireti hX hr dX2_worthFor_128
      · refine ev_iload_n hX dX2_worthFor_95 rfl ?_
        refine ev_aload_n hX dX2_worthFor_96 rfl ?_
        refine ev_iload_n hX dX2_worthFor_97 rfl ?_
        refine ev_iload_n hX dX2_worthFor_98 rfl ?_
        refine ev_callVi hX (k0 := 1) (As := [.inl x1, .inl x3]) (rm := rm_X2_inHand) (c_X2_inHand l D cI cC td x1 x3 w) (cwV 2 hX.ts gX2_worthFor_X2_inHand rfl rfl rfl (by decide +kernel) ⟨Nat.le_of_ble_eq_true rfl, Nat.le_of_ble_eq_true rfl⟩) rfl rfl rfl rfl rfl rfl ⟨Nat.le_of_ble_eq_true rfl, Nat.le_of_ble_eq_true rfl⟩ dX2_worthFor_99 rfl (fun z6 hz6 => ?_)
        refine ev_aload_n hX dX2_worthFor_102 rfl ?_
        refine ev_iconst hX dX2_worthFor_103 (v := 1) (by decide +kernel) ?_
        refine ev_iload_n hX dX2_worthFor_104 rfl ?_
        refine ev_isub hX dX2_worthFor_105 ?_
        refine ev_iload_n hX dX2_worthFor_106 rfl ?_
        refine ev_callVi hX (k0 := 1) (As := [.inl (1 - x1), .inl x3]) (rm := rm_X2_inHand) (c_X2_inHand l D cI cC td (1 - x1) x3 z6.2) (cwV 2 hX.ts gX2_worthFor_X2_inHand rfl rfl rfl (by decide +kernel) ⟨Nat.le_of_ble_eq_true rfl, Nat.le_of_ble_eq_true rfl⟩) rfl rfl rfl rfl rfl rfl ⟨Nat.le_of_ble_eq_true rfl, Nat.le_of_ble_eq_true rfl⟩ dX2_worthFor_107 rfl (fun z7 hz7 => ?_)
        refine ev_isub hX dX2_worthFor_110 ?_
        refine ev_getsN (j := 4) (host := "FiveShogi") hX rfl (List.mem_of_getElem? (i := 3) rfl) dX2_worthFor_111 ?_
        refine ev_iload_n hX dX2_worthFor_114 rfl ?_
        refine ev_tald (xs := tb_WORTHS) hX rfl dX2_worthFor_115 (fun j8 => ?_)
        refine ev_iconst hX dX2_worthFor_116 (v := 1) (by decide +kernel) ?_
        refine ev_iadd hX dX2_worthFor_117 ?_
        refine ev_imul hX dX2_worthFor_118 ?_
        refine ev_iadd hX dX2_worthFor_119 ?_
        refine ev_istore_n hX dX2_worthFor_120 rfl (L' := [some (.inr (.inl 1)), some (.inl x1), some (.inl (x2 + ((z6.1 - z7.1) * ((tb_WORTHS.getD j8 0) + 1)))), some (.inl x3), none, none]) rfl ?_
        refine ev_iinc hX dX2_worthFor_121 rfl (v := 1) (by decide +kernel) (L' := [some (.inr (.inl 1)), some (.inl x1), some (.inl (x2 + ((z6.1 - z7.1) * ((tb_WORTHS.getD j8 0) + 1)))), some (.inl (x3 + 1)), none, none]) rfl ?_
        refine ev_goto (tgt := 82) hX dX2_worthFor_124 (by decide) ?_
        refine ev_mask [true, true, true, true, false, false] (L' := [some (.inr (.inl 1)), some (.inl x1), some (.inl (x2 + ((z6.1 - z7.1) * ((tb_WORTHS.getD j8 0) + 1)))), some (.inl (x3 + 1)), none, none]) rfl rfl ?_
        exact ih x1 (x2 + ((z6.1 - z7.1) * ((tb_WORTHS.getD j8 0) + 1))) (x3 + 1) z7.2
set_option maxHeartbeats 4000000 in
set_option maxRecDepth 100000 in
theorem e_X2_worthFor_4 (hX : mv_X p s m args meth c D vwCl cI cC tbX td A cX2_worthFor 6 RX2 wsX2_worthFor) (hr : meth.sig.returnType = (some .int)) : ∀ (n : Nat) (x1 : Int32) (x2 : Int32) (x3 : Int32) (w : mvW), EV p l e (headSpec wsX2_worthFor rm_X2_worthFor).room s m args below meth c D vwCl cI cC td A (fun a => a = ad0) (mv_Qi below args s D vwCl cI cC shX ad0 A) 0 0 shX [some (.inr (.inl 1)), some (.inl x1), some (.inl x2), some (.inl x3), none, none] [] 4 w (f_X2_worthFor_4 n x1 x2 x3 w) := by
  intro n
  induction n with
  | zero => intro x1 x2 x3 w; exact ev_none
  | succ n ih =>
    intro x1 x2 x3 w
    rw [f_X2_worthFor_4]
    refine ev_iload_n hX dX2_worthFor_4 rfl ?_
    refine ev_bipush hX dX2_worthFor_5 (v := 25) (by decide +kernel) ?_
    refine ev_icmp_ge (tgt := 80) hX dX2_worthFor_7 (by decide) ?_ ?_
    · refine ev_iconst hX dX2_worthFor_80 (v := 1) (by decide +kernel) ?_
      refine ev_istore_n hX dX2_worthFor_81 rfl (L' := [some (.inr (.inl 1)), some (.inl x1), some (.inl x2), some (.inl 1), none, none]) rfl ?_
      refine ev_mask [true, true, true, true, false, false] (L' := [some (.inr (.inl 1)), some (.inl x1), some (.inl x2), some (.inl 1), none, none]) rfl rfl ?_
      exact e_X2_worthFor_82 hX hr 4096 x1 x2 1 w
    · refine ev_aload_n hX dX2_worthFor_10 rfl ?_
      refine ev_getr (k := 0) hX (T := TX2) in_X2_worthFor_X2 rfl rfl rfl (show Cond.fieldLink RX2 11 "FiveShogi$Position" "state" "[I" ∈ _ by decide +kernel) rfl dX2_worthFor_11 ?_
      refine ev_iload_n hX dX2_worthFor_14 rfl ?_
      refine ev_iald hX rfl dX2_worthFor_15 (fun j1 => ?_)
      refine ev_istore hX dX2_worthFor_16 rfl (L' := [some (.inr (.inl 1)), some (.inl x1), some (.inl x2), some (.inl x3), some (.inl (w 2 j1)), none]) rfl ?_
      refine ev_iload hX dX2_worthFor_18 rfl ?_
      refine ev_callNi hX (As := [.inl (w 2 j1)]) (rm := rm_X4_kindOf) (c_X4_kindOf l D cI cC td (w 2 j1) w) ⟨va_cnB (host := "FiveShogi") 1 hX.ts gX2_worthFor_X4_kindOf_n48 rfl rfl rfl (hX.sta.2.1 (_, 48, _, _) (List.mem_of_getElem? (i := 3) rfl)) (hX.ts _ (show Cond.initialized RX4 ∈ _ by decide +kernel)) (by decide +kernel) ⟨Nat.le_of_ble_eq_true rfl, Nat.le_of_ble_eq_true rfl⟩, hX.ts _ (show Cond.static yX4_kindOf ∈ _ by decide +kernel), trivial⟩ rfl rfl rfl ⟨Nat.le_of_ble_eq_true rfl, Nat.le_of_ble_eq_true rfl⟩ dX2_worthFor_20 rfl (fun z2 hz2 => ?_)
      refine ev_istore hX dX2_worthFor_23 rfl (L' := [some (.inr (.inl 1)), some (.inl x1), some (.inl x2), some (.inl x3), some (.inl (w 2 j1)), some (.inl z2.1)]) rfl ?_
      refine ev_iload hX dX2_worthFor_25 rfl ?_
      refine ev_bipush hX dX2_worthFor_27 (v := 99) (by decide +kernel) ?_
      refine ev_icmp_eq (tgt := 74) hX dX2_worthFor_29 (by decide) ?_ ?_
      · refine ev_iinc hX dX2_worthFor_74 rfl (v := 1) (by decide +kernel) (L' := [some (.inr (.inl 1)), some (.inl x1), some (.inl x2), some (.inl (x3 + 1)), some (.inl (w 2 j1)), some (.inl z2.1)]) rfl ?_
        refine ev_goto (tgt := 4) hX dX2_worthFor_77 (by decide) ?_
        refine ev_mask [true, true, true, true, false, false] (L' := [some (.inr (.inl 1)), some (.inl x1), some (.inl x2), some (.inl (x3 + 1)), none, none]) rfl rfl ?_
        exact ih x1 x2 (x3 + 1) z2.2
      · refine ev_iload hX dX2_worthFor_32 rfl ?_
        refine ev_if_lt (tgt := 74) hX dX2_worthFor_34 (by decide) ?_ ?_
        · refine ev_iinc hX dX2_worthFor_74 rfl (v := 1) (by decide +kernel) (L' := [some (.inr (.inl 1)), some (.inl x1), some (.inl x2), some (.inl (x3 + 1)), some (.inl (w 2 j1)), some (.inl z2.1)]) rfl ?_
          refine ev_goto (tgt := 4) hX dX2_worthFor_77 (by decide) ?_
          refine ev_mask [true, true, true, true, false, false] (L' := [some (.inr (.inl 1)), some (.inl x1), some (.inl x2), some (.inl (x3 + 1)), none, none]) rfl rfl ?_
          exact ih x1 x2 (x3 + 1) z2.2
        · refine ev_iload hX dX2_worthFor_37 rfl ?_
          refine ev_getsN (j := 4) (host := "FiveShogi") hX rfl (List.mem_of_getElem? (i := 3) rfl) dX2_worthFor_39 ?_
          refine ev_tlen hX rfl (v := 10) (by decide +kernel) dX2_worthFor_42 ?_
          refine ev_icmp_ge (tgt := 74) hX dX2_worthFor_43 (by decide) ?_ ?_
          · refine ev_iinc hX dX2_worthFor_74 rfl (v := 1) (by decide +kernel) (L' := [some (.inr (.inl 1)), some (.inl x1), some (.inl x2), some (.inl (x3 + 1)), some (.inl (w 2 j1)), some (.inl z2.1)]) rfl ?_
            refine ev_goto (tgt := 4) hX dX2_worthFor_77 (by decide) ?_
            refine ev_mask [true, true, true, true, false, false] (L' := [some (.inr (.inl 1)), some (.inl x1), some (.inl x2), some (.inl (x3 + 1)), none, none]) rfl rfl ?_
            exact ih x1 x2 (x3 + 1) z2.2
          · refine ev_iload_n hX dX2_worthFor_46 rfl ?_
            refine ev_iload hX dX2_worthFor_47 rfl ?_
            refine ev_callNi hX (As := [.inl (w 2 j1)]) (rm := rm_X4_sideOf) (c_X4_sideOf l D cI cC td (w 2 j1) z2.2) ⟨va_cnB (host := "FiveShogi") 1 hX.ts gX2_worthFor_X4_sideOf_n52 rfl rfl rfl (hX.sta.2.1 (_, 52, _, _) (List.mem_of_getElem? (i := 4) rfl)) (hX.ts _ (show Cond.initialized RX4 ∈ _ by decide +kernel)) (by decide +kernel) ⟨Nat.le_of_ble_eq_true rfl, Nat.le_of_ble_eq_true rfl⟩, hX.ts _ (show Cond.static yX4_sideOf ∈ _ by decide +kernel), trivial⟩ rfl rfl rfl ⟨Nat.le_of_ble_eq_true rfl, Nat.le_of_ble_eq_true rfl⟩ dX2_worthFor_49 rfl (fun z3 hz3 => ?_)
            refine ev_iload_n hX dX2_worthFor_52 rfl ?_
            refine ev_icmp_ne (tgt := 65) hX dX2_worthFor_53 (by decide) ?_ ?_
            · refine ev_getsN (j := 4) (host := "FiveShogi") hX rfl (List.mem_of_getElem? (i := 3) rfl) dX2_worthFor_65 ?_
              refine ev_iload hX dX2_worthFor_68 rfl ?_
              refine ev_tald (xs := tb_WORTHS) hX rfl dX2_worthFor_70 (fun j4 => ?_)
              refine ev_ineg hX dX2_worthFor_71 ?_
              refine ev_iadd hX dX2_worthFor_72 ?_
              refine ev_istore_n hX dX2_worthFor_73 rfl (L' := [some (.inr (.inl 1)), some (.inl x1), some (.inl (x2 + (-(tb_WORTHS.getD j4 0)))), some (.inl x3), some (.inl (w 2 j1)), some (.inl z2.1)]) rfl ?_
              refine ev_iinc hX dX2_worthFor_74 rfl (v := 1) (by decide +kernel) (L' := [some (.inr (.inl 1)), some (.inl x1), some (.inl (x2 + (-(tb_WORTHS.getD j4 0)))), some (.inl (x3 + 1)), some (.inl (w 2 j1)), some (.inl z2.1)]) rfl ?_
              refine ev_goto (tgt := 4) hX dX2_worthFor_77 (by decide) ?_
              refine ev_mask [true, true, true, true, false, false] (L' := [some (.inr (.inl 1)), some (.inl x1), some (.inl (x2 + (-(tb_WORTHS.getD j4 0)))), some (.inl (x3 + 1)), none, none]) rfl rfl ?_
              exact ih x1 (x2 + (-(tb_WORTHS.getD j4 0))) (x3 + 1) z3.2
            · refine ev_getsN (j := 4) (host := "FiveShogi") hX rfl (List.mem_of_getElem? (i := 3) rfl) dX2_worthFor_56 ?_
              refine ev_iload hX dX2_worthFor_59 rfl ?_
              refine ev_tald (xs := tb_WORTHS) hX rfl dX2_worthFor_61 (fun j5 => ?_)
              refine ev_goto (tgt := 72) hX dX2_worthFor_62 (by decide) ?_
              refine ev_iadd hX dX2_worthFor_72 ?_
              refine ev_istore_n hX dX2_worthFor_73 rfl (L' := [some (.inr (.inl 1)), some (.inl x1), some (.inl (x2 + (tb_WORTHS.getD j5 0))), some (.inl x3), some (.inl (w 2 j1)), some (.inl z2.1)]) rfl ?_
              refine ev_iinc hX dX2_worthFor_74 rfl (v := 1) (by decide +kernel) (L' := [some (.inr (.inl 1)), some (.inl x1), some (.inl (x2 + (tb_WORTHS.getD j5 0))), some (.inl (x3 + 1)), some (.inl (w 2 j1)), some (.inl z2.1)]) rfl ?_
              refine ev_goto (tgt := 4) hX dX2_worthFor_77 (by decide) ?_
              refine ev_mask [true, true, true, true, false, false] (L' := [some (.inr (.inl 1)), some (.inl x1), some (.inl (x2 + (tb_WORTHS.getD j5 0))), some (.inl (x3 + 1)), none, none]) rfl rfl ?_
              exact ih x1 (x2 + (tb_WORTHS.getD j5 0)) (x3 + 1) z3.2
set_option maxHeartbeats 4000000 in
set_option maxRecDepth 100000 in
theorem c_X2_worthFor (l : Launch) (D : va_G) (cI cC : ClassId) (td : Nat → Option Nat) (a1 : Int32) (w : mvW) : ∀ z, f_X2_worthFor a1 w = some z → mv_Ci l D vwCl cI cC tbX td yX2_worthFor wsX2_worthFor rm_X2_worthFor shX w [.inr (.inl 1), .inl a1] z := by
  refine mv_starti (own := RX2) rfl (by decide) rfl rfl (L0 := [some (.inr (.inl 1)), some (.inl a1), none, none, none, none]) rfl (fun p e s m args below meth c A ad0 hX hr => ?_)
  rw [f_X2_worthFor]
  refine ev_iconst hX dX2_worthFor_0 (v := 0) (by decide +kernel) ?_
  refine ev_istore_n hX dX2_worthFor_1 rfl (L' := [some (.inr (.inl 1)), some (.inl a1), some (.inl 0), none, none, none]) rfl ?_
  refine ev_iconst hX dX2_worthFor_2 (v := 0) (by decide +kernel) ?_
  refine ev_istore_n hX dX2_worthFor_3 rfl (L' := [some (.inr (.inl 1)), some (.inl a1), some (.inl 0), some (.inl 0), none, none]) rfl ?_
  refine ev_mask [true, true, true, true, false, false] (L' := [some (.inr (.inl 1)), some (.inl a1), some (.inl 0), some (.inl 0), none, none]) rfl rfl ?_
  exact e_X2_worthFor_4 hX hr 4096 a1 0 0 w
def rm_X4_worth : Room := { frames := 3, cells := 0, slots := 0, locals := 67 }
set_option maxRecDepth 20000 in
theorem in_X4_worth_X4 : ∀ w ∈ u_ws RX4 TX4 7, w ∈ wsX4_worth := by decide +kernel
set_option maxHeartbeats 4000000 in
set_option maxRecDepth 100000 in
theorem c_X4_worth (l : Launch) (D : va_G) (cI cC : ClassId) (td : Nat → Option Nat) (a1 : Int32) (w : mvW) : ∀ z, f_X4_worth a1 w = some z → mv_Ci l D vwCl cI cC tbX td yX4_worth wsX4_worth rm_X4_worth shX w [.inr (.inl 0), .inl a1] z := by
  refine mv_starti (own := RX4) rfl (by decide) rfl rfl (L0 := [some (.inr (.inl 0)), some (.inl a1)]) rfl (fun p e s m args below meth c A ad0 hX hr => ?_)
  rw [f_X4_worth]
  refine ev_iload_n hX dX4_worth_0 rfl ?_
  refine ev_callSi hX (As := [.inl a1]) (rm := rm_X4_isSide) (c_X4_isSide l D cI cC td a1 w) (cwS 1 hX.ts gX4_worth_X4_isSide rfl rfl rfl (by decide +kernel) ⟨Nat.le_of_ble_eq_true rfl, Nat.le_of_ble_eq_true rfl⟩) rfl rfl rfl ⟨Nat.le_of_ble_eq_true rfl, Nat.le_of_ble_eq_true rfl⟩ dX4_worth_1 rfl (fun z1 hz1 => ?_)
  refine ev_if_ne (tgt := 11) hX dX4_worth_4 (by decide) ?_ ?_
  · refine ev_aload_n hX dX4_worth_11 rfl ?_
    refine ev_getr (k := 0) hX (T := TX4) in_X4_worth_X4 rfl rfl rfl (show Cond.fieldLink RX4 12 "FiveShogi" "position" "LFiveShogi$Position;" ∈ _ by decide +kernel) rfl dX4_worth_12 ?_
    refine ev_iload_n hX dX4_worth_15 rfl ?_
    refine ev_callVi hX (k0 := 1) (As := [.inl a1]) (rm := rm_X2_worthFor) (c_X2_worthFor l D cI cC td a1 z1.2) (cwV 1 hX.ts gX4_worth_X2_worthFor rfl rfl rfl (by decide +kernel) ⟨Nat.le_of_ble_eq_true rfl, Nat.le_of_ble_eq_true rfl⟩) rfl rfl rfl rfl rfl rfl ⟨Nat.le_of_ble_eq_true rfl, Nat.le_of_ble_eq_true rfl⟩ dX4_worth_16 rfl (fun z2 hz2 => ?_)
    exact ev_ireti hX hr dX4_worth_19
  · refine ev_sipush hX dX4_worth_7 (v := (-1001)) (by decide +kernel) ?_
    exact ev_ireti hX hr dX4_worth_10
def rm_X5_worthOf : Room := { frames := 0, cells := 0, slots := 0, locals := 0 }
set_option maxHeartbeats 4000000 in
set_option maxRecDepth 100000 in
theorem c_X5_worthOf (l : Launch) (D : va_G) (cI cC : ClassId) (td : Nat → Option Nat) (a0 : Int32) (w : mvW) : ∀ z, f_X5_worthOf a0 w = some z → mv_Ci l D vwCl cI cC tbX td yX5_worthOf wsX5_worthOf rm_X5_worthOf shM w [.inl a0] z := by
  refine mv_starti (own := RX5) rfl (by decide) rfl rfl (L0 := [some (.inl a0)]) rfl (fun p e s m args below meth c A ad0 hX hr => ?_)
  rw [f_X5_worthOf]
  refine ev_iload_n hX dX5_worthOf_0 rfl ?_
  refine ev_case 0 (fun c_1_0 => ?_) (fun c_1_0 => ?_)
  · refine ev_tsIn (tgt := 56) hX dX5_worthOf_1 c_1_0 rfl rfl rfl (by decide) ?_
    refine ev_iconst hX dX5_worthOf_56 (v := 0) (by decide +kernel) ?_
    exact ev_ireti hX hr dX5_worthOf_57
  · refine ev_case 1 (fun c_1_1 => ?_) (fun c_1_1 => ?_)
    · refine ev_tsIn (tgt := 76) hX dX5_worthOf_1 c_1_1 rfl rfl rfl (by decide) ?_
      refine ev_bipush hX dX5_worthOf_76 (v := 6) (by decide +kernel) ?_
      exact ev_ireti hX hr dX5_worthOf_78
    · refine ev_case 2 (fun c_1_2 => ?_) (fun c_1_2 => ?_)
      · refine ev_tsIn (tgt := 58) hX dX5_worthOf_1 c_1_2 rfl rfl rfl (by decide) ?_
        refine ev_iconst hX dX5_worthOf_58 (v := 5) (by decide +kernel) ?_
        exact ev_ireti hX hr dX5_worthOf_59
      · refine ev_case 3 (fun c_1_3 => ?_) (fun c_1_3 => ?_)
        · refine ev_tsIn (tgt := 60) hX dX5_worthOf_1 c_1_3 rfl rfl rfl (by decide) ?_
          refine ev_bipush hX dX5_worthOf_60 (v := 8) (by decide +kernel) ?_
          exact ev_ireti hX hr dX5_worthOf_62
        · refine ev_case 4 (fun c_1_4 => ?_) (fun c_1_4 => ?_)
          · refine ev_tsIn (tgt := 63) hX dX5_worthOf_1 c_1_4 rfl rfl rfl (by decide) ?_
            refine ev_bipush hX dX5_worthOf_63 (v := 10) (by decide +kernel) ?_
            exact ev_ireti hX hr dX5_worthOf_65
          · refine ev_case 5 (fun c_1_5 => ?_) (fun c_1_5 => ?_)
            · refine ev_tsIn (tgt := 66) hX dX5_worthOf_1 c_1_5 rfl rfl rfl (by decide) ?_
              refine ev_iconst hX dX5_worthOf_66 (v := 1) (by decide +kernel) ?_
              exact ev_ireti hX hr dX5_worthOf_67
            · refine ev_case 6 (fun c_1_6 => ?_) (fun c_1_6 => ?_)
              · refine ev_tsIn (tgt := 76) hX dX5_worthOf_1 c_1_6 rfl rfl rfl (by decide) ?_
                refine ev_bipush hX dX5_worthOf_76 (v := 6) (by decide +kernel) ?_
                exact ev_ireti hX hr dX5_worthOf_78
              · refine ev_case 7 (fun c_1_7 => ?_) (fun c_1_7 => ?_)
                · refine ev_tsIn (tgt := 68) hX dX5_worthOf_1 c_1_7 rfl rfl rfl (by decide) ?_
                  refine ev_bipush hX dX5_worthOf_68 (v := 11) (by decide +kernel) ?_
                  exact ev_ireti hX hr dX5_worthOf_70
                · refine ev_case 8 (fun c_1_8 => ?_) (fun c_1_8 => ?_)
                  · refine ev_tsIn (tgt := 71) hX dX5_worthOf_1 c_1_8 rfl rfl rfl (by decide) ?_
                    refine ev_bipush hX dX5_worthOf_71 (v := 13) (by decide +kernel) ?_
                    exact ev_ireti hX hr dX5_worthOf_73
                  · refine ev_case 9 (fun c_1_9 => ?_) (fun c_1_9 => ?_)
                    · refine ev_tsIn (tgt := 74) hX dX5_worthOf_1 c_1_9 rfl rfl rfl (by decide) ?_
                      refine ev_iconst hX dX5_worthOf_74 (v := 4) (by decide +kernel) ?_
                      exact ev_ireti hX hr dX5_worthOf_75
                    · refine ev_tsOut (tgt := 76) hX dX5_worthOf_1 (mv_swout 0 10 (lt_s (lt_s (lt_s (lt_s (lt_s (lt_s (lt_s (lt_s (lt_s (lt_s lt_0 c_1_0) c_1_1) c_1_2) c_1_3) c_1_4) c_1_5) c_1_6) c_1_7) c_1_8) c_1_9) (by decide) (by decide) (by decide)) (by decide) ?_
                      refine ev_bipush hX dX5_worthOf_76 (v := 6) (by decide +kernel) ?_
                      exact ev_ireti hX hr dX5_worthOf_78
def rm_X5_worthIn : Room := { frames := 2, cells := 0, slots := 0, locals := 44 }
set_option maxRecDepth 20000 in
theorem in_X5_worthIn_X5 : ∀ w ∈ u_ws RX5 TX5 8, w ∈ wsX5_worthIn := by decide +kernel
set_option maxHeartbeats 4000000 in
set_option maxRecDepth 100000 in
theorem e_X5_worthIn_78 (hX : mv_X p s m args meth c D vwCl cI cC tbX td A cX5_worthIn 6 RX5 wsX5_worthIn) (hr : meth.sig.returnType = (some .int)) : ∀ (n : Nat) (x1 : Int32) (x2 : Int32) (x3 : Int32) (x4 : Int32) (w : mvW), EV p l e (headSpec wsX5_worthIn rm_X5_worthIn).room s m args below meth c D vwCl cI cC td A (fun a => a = ad0) (mv_Qi below args s D vwCl cI cC shM ad0 A) 0 0 shM [some (.inr (.inl 0)), some (.inl x1), some (.inl x2), some (.inl x3), some (.inl x4), none] [] 78 w (f_X5_worthIn_78 n x1 x2 x3 x4 w) := by
  intro n
  induction n with
  | zero => intro x1 x2 x3 x4 w; exact ev_none
  | succ n ih =>
    intro x1 x2 x3 x4 w
    rw [f_X5_worthIn_78]
    refine ev_iload hX dX5_worthIn_78 rfl ?_
    refine ev_bipush hX dX5_worthIn_80 (v := 10) (by decide +kernel) ?_
    refine ev_icmp_ge (tgt := 136) hX dX5_worthIn_82 (by decide) ?_ ?_
    · refine ev_iload_n hX dX5_worthIn_136 rfl ?_
      exact ev_ireti hX hr dX5_worthIn_137
    · refine ev_aload_n hX dX5_worthIn_85 rfl ?_
      refine ev_getr (k := 0) hX (T := TX5) in_X5_worthIn_X5 rfl rfl rfl (show Cond.fieldLink RX5 7 "FiveShogiModel" "s" "[I" ∈ _ by decide +kernel) rfl dX5_worthIn_86 ?_
      refine ev_iload_n hX dX5_worthIn_89 rfl ?_
      refine ev_bipush hX dX5_worthIn_90 (v := 25) (by decide +kernel) ?_
      refine ev_iadd hX dX5_worthIn_92 ?_
      refine ev_iload hX dX5_worthIn_93 rfl ?_
      refine ev_iadd hX dX5_worthIn_95 ?_
      refine ev_iald hX rfl dX5_worthIn_96 (fun j6 => ?_)
      refine ev_iload hX dX5_worthIn_97 rfl ?_
      refine ev_iconst hX dX5_worthIn_99 (v := 5) (by decide +kernel) ?_
      refine ev_irem hX dX5_worthIn_100 (by decide) ?_
      refine ev_iconst hX dX5_worthIn_101 (v := 1) (by decide +kernel) ?_
      refine ev_iadd hX dX5_worthIn_102 ?_
      refine ev_callSi hX (As := [.inl ((x4 - x4 / 5 * 5) + 1)]) (rm := rm_X5_worthOf) (c_X5_worthOf l D cI cC td ((x4 - x4 / 5 * 5) + 1) w) (cwS 1 hX.ts gX5_worthIn_X5_worthOf rfl rfl rfl (by decide +kernel) ⟨Nat.le_of_ble_eq_true rfl, Nat.le_of_ble_eq_true rfl⟩) rfl rfl rfl ⟨Nat.le_of_ble_eq_true rfl, Nat.le_of_ble_eq_true rfl⟩ dX5_worthIn_103 rfl (fun z7 hz7 => ?_)
      refine ev_iconst hX dX5_worthIn_106 (v := 1) (by decide +kernel) ?_
      refine ev_iadd hX dX5_worthIn_107 ?_
      refine ev_imul hX dX5_worthIn_108 ?_
      refine ev_istore hX dX5_worthIn_109 rfl (L' := [some (.inr (.inl 0)), some (.inl x1), some (.inl x2), some (.inl x3), some (.inl x4), some (.inl ((w 1 j6) * (z7.1 + 1)))]) rfl ?_
      refine ev_iload_n hX dX5_worthIn_111 rfl ?_
      refine ev_iload hX dX5_worthIn_112 rfl ?_
      refine ev_iconst hX dX5_worthIn_114 (v := 5) (by decide +kernel) ?_
      refine ev_idiv hX dX5_worthIn_115 (by decide) ?_
      refine ev_iload_n hX dX5_worthIn_116 rfl ?_
      refine ev_icmp_ne (tgt := 125) hX dX5_worthIn_117 (by decide) ?_ ?_
      · refine ev_iload hX dX5_worthIn_125 rfl ?_
        refine ev_ineg hX dX5_worthIn_127 ?_
        refine ev_iadd hX dX5_worthIn_128 ?_
        refine ev_istore_n hX dX5_worthIn_129 rfl (L' := [some (.inr (.inl 0)), some (.inl x1), some (.inl x2), some (.inl (x3 + (-((w 1 j6) * (z7.1 + 1))))), some (.inl x4), some (.inl ((w 1 j6) * (z7.1 + 1)))]) rfl ?_
        refine ev_iinc hX dX5_worthIn_130 rfl (v := 1) (by decide +kernel) (L' := [some (.inr (.inl 0)), some (.inl x1), some (.inl x2), some (.inl (x3 + (-((w 1 j6) * (z7.1 + 1))))), some (.inl (x4 + 1)), some (.inl ((w 1 j6) * (z7.1 + 1)))]) rfl ?_
        refine ev_goto (tgt := 78) hX dX5_worthIn_133 (by decide) ?_
        refine ev_mask [true, true, true, true, true, false] (L' := [some (.inr (.inl 0)), some (.inl x1), some (.inl x2), some (.inl (x3 + (-((w 1 j6) * (z7.1 + 1))))), some (.inl (x4 + 1)), none]) rfl rfl ?_
        exact ih x1 x2 (x3 + (-((w 1 j6) * (z7.1 + 1)))) (x4 + 1) z7.2
      · refine ev_iload hX dX5_worthIn_120 rfl ?_
        refine ev_goto (tgt := 128) hX dX5_worthIn_122 (by decide) ?_
        refine ev_iadd hX dX5_worthIn_128 ?_
        refine ev_istore_n hX dX5_worthIn_129 rfl (L' := [some (.inr (.inl 0)), some (.inl x1), some (.inl x2), some (.inl (x3 + ((w 1 j6) * (z7.1 + 1)))), some (.inl x4), some (.inl ((w 1 j6) * (z7.1 + 1)))]) rfl ?_
        refine ev_iinc hX dX5_worthIn_130 rfl (v := 1) (by decide +kernel) (L' := [some (.inr (.inl 0)), some (.inl x1), some (.inl x2), some (.inl (x3 + ((w 1 j6) * (z7.1 + 1)))), some (.inl (x4 + 1)), some (.inl ((w 1 j6) * (z7.1 + 1)))]) rfl ?_
        refine ev_goto (tgt := 78) hX dX5_worthIn_133 (by decide) ?_
        refine ev_mask [true, true, true, true, true, false] (L' := [some (.inr (.inl 0)), some (.inl x1), some (.inl x2), some (.inl (x3 + ((w 1 j6) * (z7.1 + 1)))), some (.inl (x4 + 1)), none]) rfl rfl ?_
        exact ih x1 x2 (x3 + ((w 1 j6) * (z7.1 + 1))) (x4 + 1) z7.2
set_option maxHeartbeats 4000000 in
set_option maxRecDepth 100000 in
theorem e_X5_worthIn_5 (hX : mv_X p s m args meth c D vwCl cI cC tbX td A cX5_worthIn 6 RX5 wsX5_worthIn) (hr : meth.sig.returnType = (some .int)) : ∀ (n : Nat) (x1 : Int32) (x2 : Int32) (x3 : Int32) (x4 : Int32) (w : mvW), EV p l e (headSpec wsX5_worthIn rm_X5_worthIn).room s m args below meth c D vwCl cI cC td A (fun a => a = ad0) (mv_Qi below args s D vwCl cI cC shM ad0 A) 0 0 shM [some (.inr (.inl 0)), some (.inl x1), some (.inl x2), some (.inl x3), some (.inl x4), none] [] 5 w (f_X5_worthIn_5 n x1 x2 x3 x4 w) := by
  intro n
  induction n with
  | zero => intro x1 x2 x3 x4 w; exact ev_none
  | succ n ih =>
    intro x1 x2 x3 x4 w
    rw [f_X5_worthIn_5]
    refine ev_iload hX dX5_worthIn_5 rfl ?_
    refine ev_bipush hX dX5_worthIn_7 (v := 25) (by decide +kernel) ?_
    refine ev_icmp_ge (tgt := 75) hX dX5_worthIn_9 (by decide) ?_ ?_
    · refine ev_iconst hX dX5_worthIn_75 (v := 0) (by decide +kernel) ?_
      refine ev_istore hX dX5_worthIn_76 rfl (L' := [some (.inr (.inl 0)), some (.inl x1), some (.inl x2), some (.inl x3), some (.inl 0), none]) rfl ?_
      refine ev_mask [true, true, true, true, true, false] (L' := [some (.inr (.inl 0)), some (.inl x1), some (.inl x2), some (.inl x3), some (.inl 0), none]) rfl rfl ?_
      exact e_X5_worthIn_78 hX hr 4096 x1 x2 x3 0 w
    · refine ev_aload_n hX dX5_worthIn_12 rfl ?_
      refine ev_iload_n hX dX5_worthIn_13 rfl ?_
      refine ev_iload hX dX5_worthIn_14 rfl ?_
      refine ev_callVi hX (k0 := 0) (As := [.inl x1, .inl x4]) (rm := rm_X5_sideOn) (c_X5_sideOn l D cI cC td x1 x4 w) (cwV 2 hX.ts gX5_worthIn_X5_sideOn rfl rfl rfl (by decide +kernel) ⟨Nat.le_of_ble_eq_true rfl, Nat.le_of_ble_eq_true rfl⟩) rfl rfl rfl rfl rfl rfl ⟨Nat.le_of_ble_eq_true rfl, Nat.le_of_ble_eq_true rfl⟩ dX5_worthIn_16 rfl (fun z1 hz1 => ?_)
      refine ev_istore hX dX5_worthIn_19 rfl (L' := [some (.inr (.inl 0)), some (.inl x1), some (.inl x2), some (.inl x3), some (.inl x4), some (.inl z1.1)]) rfl ?_
      refine ev_iload_n hX dX5_worthIn_21 rfl ?_
      refine ev_iload hX dX5_worthIn_22 rfl ?_
      refine ev_if_ge (tgt := 31) hX dX5_worthIn_24 (by decide) ?_ ?_
      · refine ev_iload hX dX5_worthIn_31 rfl ?_
        refine ev_iload_n hX dX5_worthIn_33 rfl ?_
        refine ev_icmp_ne (tgt := 53) hX dX5_worthIn_34 (by decide) ?_ ?_
        · refine ev_aload_n hX dX5_worthIn_53 rfl ?_
          refine ev_iload_n hX dX5_worthIn_54 rfl ?_
          refine ev_iload hX dX5_worthIn_55 rfl ?_
          refine ev_callVi hX (k0 := 0) (As := [.inl x1, .inl x4]) (rm := rm_X5_manAt) (c_X5_manAt l D cI cC td x1 x4 z1.2) (cwV 2 hX.ts gX5_worthIn_X5_manAt rfl rfl rfl (by decide +kernel) ⟨Nat.le_of_ble_eq_true rfl, Nat.le_of_ble_eq_true rfl⟩) rfl rfl rfl rfl rfl rfl ⟨Nat.le_of_ble_eq_true rfl, Nat.le_of_ble_eq_true rfl⟩ dX5_worthIn_57 rfl (fun z2 hz2 => ?_)
          refine ev_bipush hX dX5_worthIn_60 (v := 10) (by decide +kernel) ?_
          refine ev_irem hX dX5_worthIn_62 (by decide) ?_
          refine ev_callSi hX (As := [.inl (z2.1 - z2.1 / 10 * 10)]) (rm := rm_X5_worthOf) (c_X5_worthOf l D cI cC td (z2.1 - z2.1 / 10 * 10) z2.2) (cwS 1 hX.ts gX5_worthIn_X5_worthOf rfl rfl rfl (by decide +kernel) ⟨Nat.le_of_ble_eq_true rfl, Nat.le_of_ble_eq_true rfl⟩) rfl rfl rfl ⟨Nat.le_of_ble_eq_true rfl, Nat.le_of_ble_eq_true rfl⟩ dX5_worthIn_63 rfl (fun z3 hz3 => ?_)
          refine ev_ineg hX dX5_worthIn_66 ?_
          refine ev_iadd hX dX5_worthIn_67 ?_
          refine ev_istore_n hX dX5_worthIn_68 rfl (L' := [some (.inr (.inl 0)), some (.inl x1), some (.inl x2), some (.inl (x3 + (-z3.1))), some (.inl x4), some (.inl z1.1)]) rfl ?_
          refine ev_iinc hX dX5_worthIn_69 rfl (v := 1) (by decide +kernel) (L' := [some (.inr (.inl 0)), some (.inl x1), some (.inl x2), some (.inl (x3 + (-z3.1))), some (.inl (x4 + 1)), some (.inl z1.1)]) rfl ?_
          refine ev_goto (tgt := 5) hX dX5_worthIn_72 (by decide) ?_
          refine ev_mask [true, true, true, true, true, false] (L' := [some (.inr (.inl 0)), some (.inl x1), some (.inl x2), some (.inl (x3 + (-z3.1))), some (.inl (x4 + 1)), none]) rfl rfl ?_
          exact ih x1 x2 (x3 + (-z3.1)) (x4 + 1) z3.2
        · refine ev_aload_n hX dX5_worthIn_37 rfl ?_
          refine ev_iload_n hX dX5_worthIn_38 rfl ?_
          refine ev_iload hX dX5_worthIn_39 rfl ?_
          refine ev_callVi hX (k0 := 0) (As := [.inl x1, .inl x4]) (rm := rm_X5_manAt) (c_X5_manAt l D cI cC td x1 x4 z1.2) (cwV 2 hX.ts gX5_worthIn_X5_manAt rfl rfl rfl (by decide +kernel) ⟨Nat.le_of_ble_eq_true rfl, Nat.le_of_ble_eq_true rfl⟩) rfl rfl rfl rfl rfl rfl ⟨Nat.le_of_ble_eq_true rfl, Nat.le_of_ble_eq_true rfl⟩ dX5_worthIn_41 rfl (fun z4 hz4 => ?_)
          refine ev_bipush hX dX5_worthIn_44 (v := 10) (by decide +kernel) ?_
          refine ev_irem hX dX5_worthIn_46 (by decide) ?_
          refine ev_callSi hX (As := [.inl (z4.1 - z4.1 / 10 * 10)]) (rm := rm_X5_worthOf) (c_X5_worthOf l D cI cC td (z4.1 - z4.1 / 10 * 10) z4.2) (cwS 1 hX.ts gX5_worthIn_X5_worthOf rfl rfl rfl (by decide +kernel) ⟨Nat.le_of_ble_eq_true rfl, Nat.le_of_ble_eq_true rfl⟩) rfl rfl rfl ⟨Nat.le_of_ble_eq_true rfl, Nat.le_of_ble_eq_true rfl⟩ dX5_worthIn_47 rfl (fun z5 hz5 => ?_)
          refine ev_goto (tgt := 67) hX dX5_worthIn_50 (by decide) ?_
          refine ev_iadd hX dX5_worthIn_67 ?_
          refine ev_istore_n hX dX5_worthIn_68 rfl (L' := [some (.inr (.inl 0)), some (.inl x1), some (.inl x2), some (.inl (x3 + z5.1)), some (.inl x4), some (.inl z1.1)]) rfl ?_
          refine ev_iinc hX dX5_worthIn_69 rfl (v := 1) (by decide +kernel) (L' := [some (.inr (.inl 0)), some (.inl x1), some (.inl x2), some (.inl (x3 + z5.1)), some (.inl (x4 + 1)), some (.inl z1.1)]) rfl ?_
          refine ev_goto (tgt := 5) hX dX5_worthIn_72 (by decide) ?_
          refine ev_mask [true, true, true, true, true, false] (L' := [some (.inr (.inl 0)), some (.inl x1), some (.inl x2), some (.inl (x3 + z5.1)), some (.inl (x4 + 1)), none]) rfl rfl ?_
          exact ih x1 x2 (x3 + z5.1) (x4 + 1) z5.2
      · refine ev_iconst hX dX5_worthIn_27 (v := 0) (by decide +kernel) ?_
        refine ev_goto (tgt := 67) hX dX5_worthIn_28 (by decide) ?_
        refine ev_iadd hX dX5_worthIn_67 ?_
        refine ev_istore_n hX dX5_worthIn_68 rfl (L' := [some (.inr (.inl 0)), some (.inl x1), some (.inl x2), some (.inl (x3 + 0)), some (.inl x4), some (.inl z1.1)]) rfl ?_
        refine ev_iinc hX dX5_worthIn_69 rfl (v := 1) (by decide +kernel) (L' := [some (.inr (.inl 0)), some (.inl x1), some (.inl x2), some (.inl (x3 + 0)), some (.inl (x4 + 1)), some (.inl z1.1)]) rfl ?_
        refine ev_goto (tgt := 5) hX dX5_worthIn_72 (by decide) ?_
        refine ev_mask [true, true, true, true, true, false] (L' := [some (.inr (.inl 0)), some (.inl x1), some (.inl x2), some (.inl (x3 + 0)), some (.inl (x4 + 1)), none]) rfl rfl ?_
        exact ih x1 x2 (x3 + 0) (x4 + 1) z1.2
set_option maxHeartbeats 4000000 in
set_option maxRecDepth 100000 in
theorem c_X5_worthIn (l : Launch) (D : va_G) (cI cC : ClassId) (td : Nat → Option Nat) (a1 : Int32) (a2 : Int32) (w : mvW) : ∀ z, f_X5_worthIn a1 a2 w = some z → mv_Ci l D vwCl cI cC tbX td yX5_worthIn wsX5_worthIn rm_X5_worthIn shM w [.inr (.inl 0), .inl a1, .inl a2] z := by
  refine mv_starti (own := RX5) rfl (by decide) rfl rfl (L0 := [some (.inr (.inl 0)), some (.inl a1), some (.inl a2), none, none, none]) rfl (fun p e s m args below meth c A ad0 hX hr => ?_)
  rw [f_X5_worthIn]
  refine ev_iconst hX dX5_worthIn_0 (v := 0) (by decide +kernel) ?_
  refine ev_istore_n hX dX5_worthIn_1 rfl (L' := [some (.inr (.inl 0)), some (.inl a1), some (.inl a2), some (.inl 0), none, none]) rfl ?_
  refine ev_iconst hX dX5_worthIn_2 (v := 0) (by decide +kernel) ?_
  refine ev_istore hX dX5_worthIn_3 rfl (L' := [some (.inr (.inl 0)), some (.inl a1), some (.inl a2), some (.inl 0), some (.inl 0), none]) rfl ?_
  refine ev_mask [true, true, true, true, true, false] (L' := [some (.inr (.inl 0)), some (.inl a1), some (.inl a2), some (.inl 0), some (.inl 0), none]) rfl rfl ?_
  exact e_X5_worthIn_5 hX hr 4096 a1 a2 0 0 w
end
