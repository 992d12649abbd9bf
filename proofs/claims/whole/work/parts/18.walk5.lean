section
variable {p : Program} {l : Launch} {e : Env} {s : State} {m : MethodId} {args : Array Value} {below : List Frame} {meth : Method} {c : Code} {D : va_G} {cI cC : ClassId} {td : Nat → Option Nat} {A : Nat → Prop} {ad0 : Nat → Nat}
def rm_X5_worth : Room := { frames := 3, cells := 0, slots := 0, locals := 69 }
set_option maxHeartbeats 4000000 in
set_option maxRecDepth 100000 in
theorem c_X5_worth (l : Launch) (D : va_G) (cI cC : ClassId) (td : Nat → Option Nat) (a1 : Int32) (w : mvW) : ∀ z, f_X5_worth a1 w = some z → mv_Ci l D vwCl cI cC tbX td yX5_worth wsX5_worth rm_X5_worth shM w [.inr (.inl 0), .inl a1] z := by
  refine mv_starti (own := RX5) rfl (by decide) rfl rfl (L0 := [some (.inr (.inl 0)), some (.inl a1)]) rfl (fun p e s m args below meth c A ad0 hX hr => ?_)
  rw [f_X5_worth]
  refine ev_iload_n hX dX5_worth_0 rfl ?_
  refine ev_callSi hX (As := [.inl a1]) (rm := rm_X5_isSide) (c_X5_isSide l D cI cC td a1 w) (cwS 1 hX.ts gX5_worth_X5_isSide rfl rfl rfl (by decide +kernel) ⟨Nat.le_of_ble_eq_true rfl, Nat.le_of_ble_eq_true rfl⟩) rfl rfl rfl ⟨Nat.le_of_ble_eq_true rfl, Nat.le_of_ble_eq_true rfl⟩ dX5_worth_1 rfl (fun z1 hz1 => ?_)
  refine ev_if_eq (tgt := 16) hX dX5_worth_4 (by decide) ?_ ?_
  · refine ev_sipush hX dX5_worth_16 (v := (-1001)) (by decide +kernel) ?_
    exact ev_ireti hX hr dX5_worth_19
  · refine ev_aload_n hX dX5_worth_7 rfl ?_
    refine ev_iconst hX dX5_worth_8 (v := 0) (by decide +kernel) ?_
    refine ev_iload_n hX dX5_worth_9 rfl ?_
    refine ev_callVi hX (k0 := 0) (As := [.inl 0, .inl a1]) (rm := rm_X5_worthIn) (c_X5_worthIn l D cI cC td 0 a1 z1.2) (cwV 2 hX.ts gX5_worth_X5_worthIn rfl rfl rfl (by decide +kernel) ⟨Nat.le_of_ble_eq_true rfl, Nat.le_of_ble_eq_true rfl⟩) rfl rfl rfl rfl rfl rfl ⟨Nat.le_of_ble_eq_true rfl, Nat.le_of_ble_eq_true rfl⟩ dX5_worth_10 rfl (fun z2 hz2 => ?_)
    refine ev_goto (tgt := 19) hX dX5_worth_13 (by decide) ?_
    exact ev_ireti hX hr dX5_worth_19
def rm_X4_moveReason : Room := { frames := 4, cells := 0, slots := 0, locals := 100 }
set_option maxRecDepth 20000 in
theorem in_X4_moveReason_X4 : ∀ w ∈ u_ws RX4 TX4 7, w ∈ wsX4_moveReason := by decide +kernel
set_option maxHeartbeats 4000000 in
set_option maxRecDepth 100000 in
theorem c_X4_moveReason (l : Launch) (D : va_G) (cI cC : ClassId) (td : Nat → Option Nat) (a1 : Int32) (a2 : Int32) (a3 : Int32) (w : mvW) : ∀ z, f_X4_moveReason a1 a2 a3 w = some z → mv_Ci l D vwCl cI cC tbX td yX4_moveReason wsX4_moveReason rm_X4_moveReason shX w [.inr (.inl 0), .inl a1, .inl a2, .inl a3] z := by
  refine mv_starti (own := RX4) rfl (by decide) rfl rfl (L0 := [some (.inr (.inl 0)), some (.inl a1), some (.inl a2), some (.inl a3)]) rfl (fun p e s m args below meth c A ad0 hX hr => ?_)
  rw [f_X4_moveReason]
  refine ev_iload_n hX dX4_moveReason_0 rfl ?_
  refine ev_callSi hX (As := [.inl a1]) (rm := rm_X4_isSquare) (c_X4_isSquare l D cI cC td a1 w) (cwS 1 hX.ts gX4_moveReason_X4_isSquare rfl rfl rfl (by decide +kernel) ⟨Nat.le_of_ble_eq_true rfl, Nat.le_of_ble_eq_true rfl⟩) rfl rfl rfl ⟨Nat.le_of_ble_eq_true rfl, Nat.le_of_ble_eq_true rfl⟩ dX4_moveReason_1 rfl (fun z1 hz1 => ?_)
  refine ev_if_eq (tgt := 14) hX dX4_moveReason_4 (by decide) ?_ ?_
  · refine ev_sipush hX dX4_moveReason_14 (v := (-1001)) (by decide +kernel) ?_
    exact ev_ireti hX hr dX4_moveReason_17
  · refine ev_iload_n hX dX4_moveReason_7 rfl ?_
    refine ev_callSi hX (As := [.inl a2]) (rm := rm_X4_isSquare) (c_X4_isSquare l D cI cC td a2 z1.2) (cwS 1 hX.ts gX4_moveReason_X4_isSquare rfl rfl rfl (by decide +kernel) ⟨Nat.le_of_ble_eq_true rfl, Nat.le_of_ble_eq_true rfl⟩) rfl rfl rfl ⟨Nat.le_of_ble_eq_true rfl, Nat.le_of_ble_eq_true rfl⟩ dX4_moveReason_8 rfl (fun z2 hz2 => ?_)
    refine ev_if_ne (tgt := 18) hX dX4_moveReason_11 (by decide) ?_ ?_
    · refine ev_aload_n hX dX4_moveReason_18 rfl ?_
      refine ev_getr (k := 1) hX (T := TX4) in_X4_moveReason_X4 rfl rfl rfl (show Cond.fieldLink RX4 21 "FiveShogi" "rules" "LFiveShogi$Rules;" ∈ _ by decide +kernel) rfl dX4_moveReason_19 ?_
      refine ev_iload_n hX dX4_moveReason_22 rfl ?_
      refine ev_iload_n hX dX4_moveReason_23 rfl ?_
      refine ev_iload_n hX dX4_moveReason_24 rfl ?_
      refine ev_callVi hX (k0 := 4) (As := [.inl a1, .inl a2, .inl a3]) (rm := rm_X3_whyNoMove) (c_X3_whyNoMove l D cI cC td a1 a2 a3 z2.2) (cwV 3 hX.ts gX4_moveReason_X3_whyNoMove rfl rfl rfl (by decide +kernel) ⟨Nat.le_of_ble_eq_true rfl, Nat.le_of_ble_eq_true rfl⟩) rfl rfl rfl rfl rfl rfl ⟨Nat.le_of_ble_eq_true rfl, Nat.le_of_ble_eq_true rfl⟩ dX4_moveReason_25 rfl (fun z3 hz3 => ?_)
      exact ev_ireti hX hr dX4_moveReason_28
    · refine ev_sipush hX dX4_moveReason_14 (v := (-1001)) (by decide +kernel) ?_
      exact ev_ireti hX hr dX4_moveReason_17
def rm_X4_dropReason : Room := { frames := 6, cells := 0, slots := 0, locals := 147 }
set_option maxRecDepth 20000 in
theorem in_X4_dropReason_X4 : ∀ w ∈ u_ws RX4 TX4 7, w ∈ wsX4_dropReason := by decide +kernel
set_option maxHeartbeats 4000000 in
set_option maxRecDepth 100000 in
theorem c_X4_dropReason (l : Launch) (D : va_G) (cI cC : ClassId) (td : Nat → Option Nat) (a1 : Int32) (a2 : Int32) (w : mvW) : ∀ z, f_X4_dropReason a1 a2 w = some z → mv_Ci l D vwCl cI cC tbX td yX4_dropReason wsX4_dropReason rm_X4_dropReason shX w [.inr (.inl 0), .inl a1, .inl a2] z := by
  refine mv_starti (own := RX4) rfl (by decide) rfl rfl (L0 := [some (.inr (.inl 0)), some (.inl a1), some (.inl a2)]) rfl (fun p e s m args below meth c A ad0 hX hr => ?_)
  rw [f_X4_dropReason]
  refine ev_iload_n hX dX4_dropReason_0 rfl ?_
  refine ev_callSi hX (As := [.inl a1]) (rm := rm_X4_isHandKind) (c_X4_isHandKind l D cI cC td a1 w) (cwS 1 hX.ts gX4_dropReason_X4_isHandKind rfl rfl rfl (by decide +kernel) ⟨Nat.le_of_ble_eq_true rfl, Nat.le_of_ble_eq_true rfl⟩) rfl rfl rfl ⟨Nat.le_of_ble_eq_true rfl, Nat.le_of_ble_eq_true rfl⟩ dX4_dropReason_1 rfl (fun z1 hz1 => ?_)
  refine ev_if_eq (tgt := 14) hX dX4_dropReason_4 (by decide) ?_ ?_
  · refine ev_sipush hX dX4_dropReason_14 (v := (-1001)) (by decide +kernel) ?_
    exact ev_ireti hX hr dX4_dropReason_17
  · refine ev_iload_n hX dX4_dropReason_7 rfl ?_
    refine ev_callSi hX (As := [.inl a2]) (rm := rm_X4_isSquare) (c_X4_isSquare l D cI cC td a2 z1.2) (cwS 1 hX.ts gX4_dropReason_X4_isSquare rfl rfl rfl (by decide +kernel) ⟨Nat.le_of_ble_eq_true rfl, Nat.le_of_ble_eq_true rfl⟩) rfl rfl rfl ⟨Nat.le_of_ble_eq_true rfl, Nat.le_of_ble_eq_true rfl⟩ dX4_dropReason_8 rfl (fun z2 hz2 => ?_)
    refine ev_if_ne (tgt := 18) hX dX4_dropReason_11 (by decide) ?_ ?_
    · refine ev_aload_n hX dX4_dropReason_18 rfl ?_
      refine ev_getr (k := 1) hX (T := TX4) in_X4_dropReason_X4 rfl rfl rfl (show Cond.fieldLink RX4 21 "FiveShogi" "rules" "LFiveShogi$Rules;" ∈ _ by decide +kernel) rfl dX4_dropReason_19 ?_
      refine ev_iload_n hX dX4_dropReason_22 rfl ?_
      refine ev_iload_n hX dX4_dropReason_23 rfl ?_
      refine ev_callVi hX (k0 := 4) (As := [.inl a1, .inl a2]) (rm := rm_X3_whyNoDrop) (c_X3_whyNoDrop l D cI cC td a1 a2 z2.2) (cwV 2 hX.ts gX4_dropReason_X3_whyNoDrop rfl rfl rfl (by decide +kernel) ⟨Nat.le_of_ble_eq_true rfl, Nat.le_of_ble_eq_true rfl⟩) rfl rfl rfl rfl rfl rfl ⟨Nat.le_of_ble_eq_true rfl, Nat.le_of_ble_eq_true rfl⟩ dX4_dropReason_24 rfl (fun z3 hz3 => ?_)
      exact ev_ireti hX hr dX4_dropReason_27
    · refine ev_sipush hX dX4_dropReason_14 (v := (-1001)) (by decide +kernel) ?_
      exact ev_ireti hX hr dX4_dropReason_17
def rm_X3_addPlays : Room := { frames := 1, cells := 0, slots := 0, locals := 21 }
set_option maxRecDepth 20000 in
theorem in_X3_addPlays_X3 : ∀ w ∈ u_ws RX3 TX3 6, w ∈ wsX3_addPlays := by decide +kernel
set_option maxHeartbeats 4000000 in
set_option maxRecDepth 100000 in
theorem e_X3_addPlays_2 (hX : mv_X p s m args meth c D vwCl cI cC tbX td A cX3_addPlays 4 RX3 wsX3_addPlays) (hr : meth.sig.returnType = none) : ∀ (n : Nat) (x1 : Int32) (x2 : Int32) (x3 : Int32) (w : mvW), EV p l e (headSpec wsX3_addPlays rm_X3_addPlays).room s m args below meth c D vwCl cI cC td A (fun a => a = ad0) (mv_Qv below args s D vwCl cI cC shX ad0 A) 0 0 shX [some (.inr (.inl 4)), some (.inl x1), some (.inl x2), some (.inl x3)] [] 2 w (f_X3_addPlays_2 n x1 x2 x3 w) := by
  intro n
  induction n with
  | zero => intro x1 x2 x3 w; exact ev_none
  | succ n ih =>
    intro x1 x2 x3 w
    rw [f_X3_addPlays_2]
    refine ev_iload_n hX dX3_addPlays_2 rfl ?_
    refine ev_bipush hX dX3_addPlays_3 (v := 25) (by decide +kernel) ?_
    refine ev_icmp_ge (tgt := 63) hX dX3_addPlays_5 (by decide) ?_ ?_
    · exact ev_vret hX hr dX3_addPlays_63
    · refine ev_iload_n hX dX3_addPlays_8 rfl ?_
      refine ev_iload_n hX dX3_addPlays_9 rfl ?_
      refine ev_callNi hX (As := [.inl x1, .inl x3]) (rm := rm_X4_has) (c_X4_has l D cI cC td x1 x3 w) ⟨va_cnB (host := "FiveShogi") 2 hX.ts gX3_addPlays_X4_has_n76 rfl rfl rfl (hX.sta.2.1 (_, 76, _, _) (List.mem_of_getElem? (i := 8) rfl)) (hX.ts _ (show Cond.initialized RX4 ∈ _ by decide +kernel)) (by decide +kernel) ⟨Nat.le_of_ble_eq_true rfl, Nat.le_of_ble_eq_true rfl⟩, hX.ts _ (show Cond.static yX4_has ∈ _ by decide +kernel), trivial⟩ rfl rfl rfl ⟨Nat.le_of_ble_eq_true rfl, Nat.le_of_ble_eq_true rfl⟩ dX3_addPlays_10 rfl (fun z1 hz1 => ?_)
      refine ev_if_eq (tgt := 57) hX dX3_addPlays_13 (by decide) ?_ ?_
      · refine ev_iinc hX dX3_addPlays_57 rfl (v := 1) (by decide +kernel) (L' := [some (.inr (.inl 4)), some (.inl x1), some (.inl x2), some (.inl (x3 + 1))]) rfl ?_
        refine ev_goto (tgt := 2) hX dX3_addPlays_60 (by decide) ?_
        refine ev_mask [true, true, true, true] (L' := [some (.inr (.inl 4)), some (.inl x1), some (.inl x2), some (.inl (x3 + 1))]) rfl rfl ?_
        exact ih x1 x2 (x3 + 1) z1.2
      · refine ev_aload_n hX dX3_addPlays_16 rfl ?_
        refine ev_get (k := 5) hX (T := TX3) in_X3_addPlays_X3 rfl rfl rfl (show Cond.fieldLink RX3 24 "FiveShogi$Rules" "listSize" "I" ∈ _ by decide +kernel) rfl dX3_addPlays_17 ?_
        refine ev_if_lt (tgt := 57) hX dX3_addPlays_20 (by decide) ?_ ?_
        · refine ev_iinc hX dX3_addPlays_57 rfl (v := 1) (by decide +kernel) (L' := [some (.inr (.inl 4)), some (.inl x1), some (.inl x2), some (.inl (x3 + 1))]) rfl ?_
          refine ev_goto (tgt := 2) hX dX3_addPlays_60 (by decide) ?_
          refine ev_mask [true, true, true, true] (L' := [some (.inr (.inl 4)), some (.inl x1), some (.inl x2), some (.inl (x3 + 1))]) rfl rfl ?_
          exact ih x1 x2 (x3 + 1) z1.2
        · refine ev_aload_n hX dX3_addPlays_23 rfl ?_
          refine ev_get (k := 5) hX (T := TX3) in_X3_addPlays_X3 rfl rfl rfl (show Cond.fieldLink RX3 24 "FiveShogi$Rules" "listSize" "I" ∈ _ by decide +kernel) rfl dX3_addPlays_24 ?_
          refine ev_aload_n hX dX3_addPlays_27 rfl ?_
          refine ev_getr (k := 4) hX (T := TX3) in_X3_addPlays_X3 rfl rfl rfl (show Cond.fieldLink RX3 21 "FiveShogi$Rules" "list" "[I" ∈ _ by decide +kernel) rfl dX3_addPlays_28 ?_
          refine ev_alen hX rfl (v := 525) (by decide +kernel) dX3_addPlays_31 ?_
          refine ev_icmp_ge (tgt := 57) hX dX3_addPlays_32 (by decide) ?_ ?_
          · refine ev_iinc hX dX3_addPlays_57 rfl (v := 1) (by decide +kernel) (L' := [some (.inr (.inl 4)), some (.inl x1), some (.inl x2), some (.inl (x3 + 1))]) rfl ?_
            refine ev_goto (tgt := 2) hX dX3_addPlays_60 (by decide) ?_
            refine ev_mask [true, true, true, true] (L' := [some (.inr (.inl 4)), some (.inl x1), some (.inl x2), some (.inl (x3 + 1))]) rfl rfl ?_
            exact ih x1 x2 (x3 + 1) z1.2
          · refine ev_aload_n hX dX3_addPlays_35 rfl ?_
            refine ev_getr (k := 4) hX (T := TX3) in_X3_addPlays_X3 rfl rfl rfl (show Cond.fieldLink RX3 21 "FiveShogi$Rules" "list" "[I" ∈ _ by decide +kernel) rfl dX3_addPlays_36 ?_
            refine ev_aload_n hX dX3_addPlays_39 rfl ?_
            refine ev_get (k := 5) hX (T := TX3) in_X3_addPlays_X3 rfl rfl rfl (show Cond.fieldLink RX3 24 "FiveShogi$Rules" "listSize" "I" ∈ _ by decide +kernel) rfl dX3_addPlays_40 ?_
            refine ev_iload_n hX dX3_addPlays_43 rfl ?_
            refine ev_iload_n hX dX3_addPlays_44 rfl ?_
            refine ev_iadd hX dX3_addPlays_45 ?_
            refine ev_iast hX rfl dX3_addPlays_46 (fun j2 => ?_)
            refine ev_aload_n hX dX3_addPlays_47 rfl ?_
            refine ev_dup hX dX3_addPlays_48 ?_
            refine ev_get (k := 5) hX (T := TX3) in_X3_addPlays_X3 rfl rfl rfl (show Cond.fieldLink RX3 24 "FiveShogi$Rules" "listSize" "I" ∈ _ by decide +kernel) rfl dX3_addPlays_49 ?_
            refine ev_iconst hX dX3_addPlays_52 (v := 1) (by decide +kernel) ?_
            refine ev_iadd hX dX3_addPlays_53 ?_
            refine ev_put (k := 5) hX (T := TX3) (ty := .int) in_X3_addPlays_X3 tyX3 tyX3_ok nmX3 rfl rfl rfl (show Cond.fieldLink RX3 24 "FiveShogi$Rules" "listSize" "I" ∈ _ by decide +kernel) rfl (by decide +kernel) rfl rfl rfl dX3_addPlays_54 ?_
            refine ev_iinc hX dX3_addPlays_57 rfl (v := 1) (by decide +kernel) (L' := [some (.inr (.inl 4)), some (.inl x1), some (.inl x2), some (.inl (x3 + 1))]) rfl ?_
            refine ev_goto (tgt := 2) hX dX3_addPlays_60 (by decide) ?_
            refine ev_mask [true, true, true, true] (L' := [some (.inr (.inl 4)), some (.inl x1), some (.inl x2), some (.inl (x3 + 1))]) rfl rfl ?_
            exact ih x1 x2 (x3 + 1) (mv_up (mv_up z1.2 8 j2 (x2 + x3)) 4 5 (((mv_up z1.2 8 j2 (x2 + x3)) 4 5) + 1))
set_option maxHeartbeats 4000000 in
set_option maxRecDepth 100000 in
theorem c_X3_addPlays (l : Launch) (D : va_G) (cI cC : ClassId) (td : Nat → Option Nat) (a1 : Int32) (a2 : Int32) (w : mvW) : ∀ z, f_X3_addPlays a1 a2 w = some z → mv_Cv l D vwCl cI cC tbX td yX3_addPlays wsX3_addPlays rm_X3_addPlays shX w [.inr (.inl 4), .inl a1, .inl a2] z := by
  refine mv_startv (own := RX3) rfl (by decide) rfl rfl (L0 := [some (.inr (.inl 4)), some (.inl a1), some (.inl a2), none]) rfl (fun p e s m args below meth c A ad0 hX hr => ?_)
  rw [f_X3_addPlays]
  refine ev_iconst hX dX3_addPlays_0 (v := 0) (by decide +kernel) ?_
  refine ev_istore_n hX dX3_addPlays_1 rfl (L' := [some (.inr (.inl 4)), some (.inl a1), some (.inl a2), some (.inl 0)]) rfl ?_
  refine ev_mask [true, true, true, true] (L' := [some (.inr (.inl 4)), some (.inl a1), some (.inl a2), some (.inl 0)]) rfl rfl ?_
  exact e_X3_addPlays_2 hX hr 4096 a1 a2 0 w
def rm_X3_listPlays : Room := { frames := 2, cells := 0, slots := 0, locals := 44 }
set_option maxRecDepth 20000 in
theorem in_X3_listPlays_X3 : ∀ w ∈ u_ws RX3 TX3 6, w ∈ wsX3_listPlays := by decide +kernel
set_option maxHeartbeats 4000000 in
set_option maxRecDepth 100000 in
theorem e_X3_listPlays_67 (hX : mv_X p s m args meth c D vwCl cI cC tbX td A cX3_listPlays 2 RX3 wsX3_listPlays) (hr : meth.sig.returnType = (some .int)) : ∀ (n : Nat) (x1 : Int32) (w : mvW), EV p l e (headSpec wsX3_listPlays rm_X3_listPlays).room s m args below meth c D vwCl cI cC td A (fun a => a = ad0) (mv_Qi below args s D vwCl cI cC shX ad0 A) 0 0 shX [some (.inr (.inl 4)), some (.inl x1)] [] 67 w (f_X3_listPlays_67 n x1 w) := by
  intro n
  induction n with
  | zero => intro x1 w; exact ev_none
  | succ n ih =>
    intro x1 w
    rw [f_X3_listPlays_67]
    refine ev_iload_n hX dX3_listPlays_67 rfl ?_
    refine ev_iconst hX dX3_listPlays_68 (v := 5) (by decide +kernel) ?_
    refine ev_icmp_gt (tgt := 93) hX dX3_listPlays_69 (by decide) ?_ ?_
    · refine ev_aload_n hX dX3_listPlays_93 rfl ?_
      refine ev_get (k := 5) hX (T := TX3) in_X3_listPlays_X3 rfl rfl rfl (show Cond.fieldLink RX3 24 "FiveShogi$Rules" "listSize" "I" ∈ _ by decide +kernel) rfl dX3_listPlays_94 ?_
      exact ev_ireti hX hr dX3_listPlays_97
    · refine ev_aload_n hX dX3_listPlays_72 rfl ?_
      refine ev_aload_n hX dX3_listPlays_73 rfl ?_
      refine ev_getr (k := 3) hX (T := TX3) in_X3_listPlays_X3 rfl rfl rfl (show Cond.fieldLink RX3 18 "FiveShogi$Rules" "kindDrops" "[I" ∈ _ by decide +kernel) rfl dX3_listPlays_74 ?_
      refine ev_iload_n hX dX3_listPlays_77 rfl ?_
      refine ev_iald hX rfl dX3_listPlays_78 (fun j7 => ?_)
      refine ev_iload_n hX dX3_listPlays_79 rfl ?_
      refine ev_iconst hX dX3_listPlays_80 (v := 0) (by decide +kernel) ?_
      refine ev_callNi hX (As := [.inl x1, .inl 0]) (rm := rm_X4_dropNumber) (c_X4_dropNumber l D cI cC td x1 0 w) ⟨va_cnB (host := "FiveShogi") 2 hX.ts gX3_listPlays_X4_dropNumber_n117 rfl rfl rfl (hX.sta.2.1 (_, 117, _, _) (List.mem_of_getElem? (i := 16) rfl)) (hX.ts _ (show Cond.initialized RX4 ∈ _ by decide +kernel)) (by decide +kernel) ⟨Nat.le_of_ble_eq_true rfl, Nat.le_of_ble_eq_true rfl⟩, hX.ts _ (show Cond.static yX4_dropNumber ∈ _ by decide +kernel), trivial⟩ rfl rfl rfl ⟨Nat.le_of_ble_eq_true rfl, Nat.le_of_ble_eq_true rfl⟩ dX3_listPlays_81 rfl (fun z8 hz8 => ?_)
      refine ev_callVv hX (k0 := 4) (As := [.inl (w 7 j7), .inl z8.1]) (rm := rm_X3_addPlays) (c_X3_addPlays l D cI cC td (w 7 j7) z8.1 z8.2) (cwV 2 hX.ts gX3_listPlays_X3_addPlays rfl rfl rfl (by decide +kernel) ⟨Nat.le_of_ble_eq_true rfl, Nat.le_of_ble_eq_true rfl⟩) rfl rfl rfl rfl rfl rfl ⟨Nat.le_of_ble_eq_true rfl, Nat.le_of_ble_eq_true rfl⟩ dX3_listPlays_84 rfl (fun z9 hz9 => ?_)
      refine ev_iinc hX dX3_listPlays_87 rfl (v := 1) (by decide +kernel) (L' := [some (.inr (.inl 4)), some (.inl (x1 + 1))]) rfl ?_
      refine ev_goto (tgt := 67) hX dX3_listPlays_90 (by decide) ?_
      refine ev_mask [true, true] (L' := [some (.inr (.inl 4)), some (.inl (x1 + 1))]) rfl rfl ?_
      exact ih (x1 + 1) z9
set_option maxHeartbeats 4000000 in
set_option maxRecDepth 100000 in
theorem e_X3_listPlays_37 (hX : mv_X p s m args meth c D vwCl cI cC tbX td A cX3_listPlays 2 RX3 wsX3_listPlays) (hr : meth.sig.returnType = (some .int)) : ∀ (n : Nat) (x1 : Int32) (w : mvW), EV p l e (headSpec wsX3_listPlays rm_X3_listPlays).room s m args below meth c D vwCl cI cC td A (fun a => a = ad0) (mv_Qi below args s D vwCl cI cC shX ad0 A) 0 0 shX [some (.inr (.inl 4)), some (.inl x1)] [] 37 w (f_X3_listPlays_37 n x1 w) := by
  intro n
  induction n with
  | zero => intro x1 w; exact ev_none
  | succ n ih =>
    intro x1 w
    rw [f_X3_listPlays_37]
    refine ev_iload_n hX dX3_listPlays_37 rfl ?_
    refine ev_bipush hX dX3_listPlays_38 (v := 25) (by decide +kernel) ?_
    refine ev_icmp_ge (tgt := 65) hX dX3_listPlays_40 (by decide) ?_ ?_
    · refine ev_iconst hX dX3_listPlays_65 (v := 1) (by decide +kernel) ?_
      refine ev_istore_n hX dX3_listPlays_66 rfl (L' := [some (.inr (.inl 4)), some (.inl 1)]) rfl ?_
      refine ev_mask [true, true] (L' := [some (.inr (.inl 4)), some (.inl 1)]) rfl rfl ?_
      exact e_X3_listPlays_67 hX hr 4096 1 w
    · refine ev_aload_n hX dX3_listPlays_43 rfl ?_
      refine ev_aload_n hX dX3_listPlays_44 rfl ?_
      refine ev_getr (k := 2) hX (T := TX3) in_X3_listPlays_X3 rfl rfl rfl (show Cond.fieldLink RX3 15 "FiveShogi$Rules" "promotedMoves" "[I" ∈ _ by decide +kernel) rfl dX3_listPlays_45 ?_
      refine ev_iload_n hX dX3_listPlays_48 rfl ?_
      refine ev_iald hX rfl dX3_listPlays_49 (fun j4 => ?_)
      refine ev_iload_n hX dX3_listPlays_50 rfl ?_
      refine ev_iconst hX dX3_listPlays_51 (v := 0) (by decide +kernel) ?_
      refine ev_iconst hX dX3_listPlays_52 (v := 1) (by decide +kernel) ?_
      refine ev_callNi hX (As := [.inl x1, .inl 0, .inl 1]) (rm := rm_X4_moveNumber) (c_X4_moveNumber l D cI cC td x1 0 1 w) ⟨va_cnB (host := "FiveShogi") 3 hX.ts gX3_listPlays_X4_moveNumber_n110 rfl rfl rfl (hX.sta.2.1 (_, 110, _, _) (List.mem_of_getElem? (i := 21) rfl)) (hX.ts _ (show Cond.initialized RX4 ∈ _ by decide +kernel)) (by decide +kernel) ⟨Nat.le_of_ble_eq_true rfl, Nat.le_of_ble_eq_true rfl⟩, hX.ts _ (show Cond.static yX4_moveNumber ∈ _ by decide +kernel), trivial⟩ rfl rfl rfl ⟨Nat.le_of_ble_eq_true rfl, Nat.le_of_ble_eq_true rfl⟩ dX3_listPlays_53 rfl (fun z5 hz5 => ?_)
      refine ev_callVv hX (k0 := 4) (As := [.inl (w 6 j4), .inl z5.1]) (rm := rm_X3_addPlays) (c_X3_addPlays l D cI cC td (w 6 j4) z5.1 z5.2) (cwV 2 hX.ts gX3_listPlays_X3_addPlays rfl rfl rfl (by decide +kernel) ⟨Nat.le_of_ble_eq_true rfl, Nat.le_of_ble_eq_true rfl⟩) rfl rfl rfl rfl rfl rfl ⟨Nat.le_of_ble_eq_true rfl, Nat.le_of_ble_eq_true rfl⟩ dX3_listPlays_56 rfl (fun z6 hz6 => ?_)
      refine ev_iinc hX dX3_listPlays_59 rfl (v := 1) (by decide +kernel) (L' := [some (.inr (.inl 4)), some (.inl (x1 + 1))]) rfl ?_
      refine ev_goto (tgt := 37) hX dX3_listPlays_62 (by decide) ?_
      refine ev_mask [true, true] (L' := [some (.inr (.inl 4)), some (.inl (x1 + 1))]) rfl rfl ?_
      exact ih (x1 + 1) z6
set_option maxHeartbeats 4000000 in
set_option maxRecDepth 100000 in
theorem e_X3_listPlays_7 (hX : mv_X p s m args meth c D vwCl cI cC tbX td A cX3_listPlays 2 RX3 wsX3_listPlays) (hr : meth.sig.returnType = (some .int)) : ∀ (n : Nat) (x1 : Int32) (w : mvW), EV p l e (headSpec wsX3_listPlays rm_X3_listPlays).room s m args below meth c D vwCl cI cC td A (fun a => a = ad0) (mv_Qi below args s D vwCl cI cC shX ad0 A) 0 0 shX [some (.inr (.inl 4)), some (.inl x1)] [] 7 w (f_X3_listPlays_7 n x1 w) := by
  intro n
  induction n with
  | zero => intro x1 w; exact ev_none
  | succ n ih =>
    intro x1 w
    rw [f_X3_listPlays_7]
    refine ev_iload_n hX dX3_listPlays_7 rfl ?_
    refine ev_bipush hX dX3_listPlays_8 (v := 25) (by decide +kernel) ?_
    refine ev_icmp_ge (tgt := 35) hX dX3_listPlays_10 (by decide) ?_ ?_
    · refine ev_iconst hX dX3_listPlays_35 (v := 0) (by decide +kernel) ?_
      refine ev_istore_n hX dX3_listPlays_36 rfl (L' := [some (.inr (.inl 4)), some (.inl 0)]) rfl ?_
      refine ev_mask [true, true] (L' := [some (.inr (.inl 4)), some (.inl 0)]) rfl rfl ?_
      exact e_X3_listPlays_37 hX hr 4096 0 w
    · refine ev_aload_n hX dX3_listPlays_13 rfl ?_
      refine ev_aload_n hX dX3_listPlays_14 rfl ?_
      refine ev_getr (k := 1) hX (T := TX3) in_X3_listPlays_X3 rfl rfl rfl (show Cond.fieldLink RX3 9 "FiveShogi$Rules" "plainMoves" "[I" ∈ _ by decide +kernel) rfl dX3_listPlays_15 ?_
      refine ev_iload_n hX dX3_listPlays_18 rfl ?_
      refine ev_iald hX rfl dX3_listPlays_19 (fun j1 => ?_)
      refine ev_iload_n hX dX3_listPlays_20 rfl ?_
      refine ev_iconst hX dX3_listPlays_21 (v := 0) (by decide +kernel) ?_
      refine ev_iconst hX dX3_listPlays_22 (v := 0) (by decide +kernel) ?_
      refine ev_callNi hX (As := [.inl x1, .inl 0, .inl 0]) (rm := rm_X4_moveNumber) (c_X4_moveNumber l D cI cC td x1 0 0 w) ⟨va_cnB (host := "FiveShogi") 3 hX.ts gX3_listPlays_X4_moveNumber_n110 rfl rfl rfl (hX.sta.2.1 (_, 110, _, _) (List.mem_of_getElem? (i := 21) rfl)) (hX.ts _ (show Cond.initialized RX4 ∈ _ by decide +kernel)) (by decide +kernel) ⟨Nat.le_of_ble_eq_true rfl, Nat.le_of_ble_eq_true rfl⟩, hX.ts _ (show Cond.static yX4_moveNumber ∈ _ by decide +kernel), trivial⟩ rfl rfl rfl ⟨Nat.le_of_ble_eq_true rfl, Nat.le_of_ble_eq_true rfl⟩ dX3_listPlays_23 rfl (fun z2 hz2 => ?_)
      refine ev_callVv hX (k0 := 4) (As := [.inl (w 5 j1), .inl z2.1]) (rm := rm_X3_addPlays) (c_X3_addPlays l D cI cC td (w 5 j1) z2.1 z2.2) (cwV 2 hX.ts gX3_listPlays_X3_addPlays rfl rfl rfl (by decide +kernel) ⟨Nat.le_of_ble_eq_true rfl, Nat.le_of_ble_eq_true rfl⟩) rfl rfl rfl rfl rfl rfl ⟨Nat.le_of_ble_eq_true rfl, Nat.le_of_ble_eq_true rfl⟩ dX3_listPlays_26 rfl (fun z3 hz3 => ?_)
      refine ev_iinc hX dX3_listPlays_29 rfl (v := 1) (by decide +kernel) (L' := [some (.inr (.inl 4)), some (.inl (x1 + 1))]) rfl ?_
      refine ev_goto (tgt := 7) hX dX3_listPlays_32 (by decide) ?_
      refine ev_mask [true, true] (L' := [some (.inr (.inl 4)), some (.inl (x1 + 1))]) rfl rfl ?_
      exact ih (x1 + 1) z3
set_option maxHeartbeats 4000000 in
set_option maxRecDepth 100000 in
theorem c_X3_listPlays (l : Launch) (D : va_G) (cI cC : ClassId) (td : Nat → Option Nat) (w : mvW) : ∀ z, f_X3_listPlays w = some z → mv_Ci l D vwCl cI cC tbX td yX3_listPlays wsX3_listPlays rm_X3_listPlays shX w [.inr (.inl 4)] z := by
  refine mv_starti (own := RX3) rfl (by decide) rfl rfl (L0 := [some (.inr (.inl 4)), none]) rfl (fun p e s m args below meth c A ad0 hX hr => ?_)
  rw [f_X3_listPlays]
  refine ev_aload_n hX dX3_listPlays_0 rfl ?_
  refine ev_iconst hX dX3_listPlays_1 (v := 0) (by decide +kernel) ?_
  refine ev_put (k := 5) hX (T := TX3) (ty := .int) in_X3_listPlays_X3 tyX3 tyX3_ok nmX3 rfl rfl rfl (show Cond.fieldLink RX3 24 "FiveShogi$Rules" "listSize" "I" ∈ _ by decide +kernel) rfl (by decide +kernel) rfl rfl rfl dX3_listPlays_2 ?_
  refine ev_iconst hX dX3_listPlays_5 (v := 0) (by decide +kernel) ?_
  refine ev_istore_n hX dX3_listPlays_6 rfl (L' := [some (.inr (.inl 4)), some (.inl 0)]) rfl ?_
  refine ev_mask [true, true] (L' := [some (.inr (.inl 4)), some (.inl 0)]) rfl rfl ?_
  exact e_X3_listPlays_7 hX hr 4096 0 (mv_up w 4 5 0)
def rm_X3_listed : Room := { frames := 0, cells := 0, slots := 0, locals := 0 }
set_option maxRecDepth 20000 in
theorem in_X3_listed_X3 : ∀ w ∈ u_ws RX3 TX3 6, w ∈ wsX3_listed := by decide +kernel
set_option maxHeartbeats 4000000 in
set_option maxRecDepth 100000 in
theorem c_X3_listed (l : Launch) (D : va_G) (cI cC : ClassId) (td : Nat → Option Nat) (a1 : Int32) (w : mvW) : ∀ z, f_X3_listed a1 w = some z → mv_Ci l D vwCl cI cC tbX td yX3_listed wsX3_listed rm_X3_listed shX w [.inr (.inl 4), .inl a1] z := by
  refine mv_starti (own := RX3) rfl (by decide) rfl rfl (L0 := [some (.inr (.inl 4)), some (.inl a1)]) rfl (fun p e s m args below meth c A ad0 hX hr => ?_)
  rw [f_X3_listed]
  refine ev_iload_n hX dX3_listed_0 rfl ?_
  refine ev_if_lt (tgt := 30) hX dX3_listed_1 (by decide) ?_ ?_
  · refine ev_sipush hX dX3_listed_30 (v := (-1005)) (by decide +kernel) ?_
    exact ev_ireti hX hr dX3_listed_33
  · refine ev_iload_n hX dX3_listed_4 rfl ?_
    refine ev_aload_n hX dX3_listed_5 rfl ?_
    refine ev_get (k := 5) hX (T := TX3) in_X3_listed_X3 rfl rfl rfl (show Cond.fieldLink RX3 24 "FiveShogi$Rules" "listSize" "I" ∈ _ by decide +kernel) rfl dX3_listed_6 ?_
    refine ev_icmp_ge (tgt := 30) hX dX3_listed_9 (by decide) ?_ ?_
    · refine ev_sipush hX dX3_listed_30 (v := (-1005)) (by decide +kernel) ?_
      exact ev_ireti hX hr dX3_listed_33
    · refine ev_iload_n hX dX3_listed_12 rfl ?_
      refine ev_aload_n hX dX3_listed_13 rfl ?_
      refine ev_getr (k := 4) hX (T := TX3) in_X3_listed_X3 rfl rfl rfl (show Cond.fieldLink RX3 21 "FiveShogi$Rules" "list" "[I" ∈ _ by decide +kernel) rfl dX3_listed_14 ?_
      refine ev_alen hX rfl (v := 525) (by decide +kernel) dX3_listed_17 ?_
      refine ev_icmp_ge (tgt := 30) hX dX3_listed_18 (by decide) ?_ ?_
      · refine ev_sipush hX dX3_listed_30 (v := (-1005)) (by decide +kernel) ?_
        exact ev_ireti hX hr dX3_listed_33
      · refine ev_aload_n hX dX3_listed_21 rfl ?_
        refine ev_getr (k := 4) hX (T := TX3) in_X3_listed_X3 rfl rfl rfl (show Cond.fieldLink RX3 21 "FiveShogi$Rules" "list" "[I" ∈ _ by decide +kernel) rfl dX3_listed_22 ?_
        refine ev_iload_n hX dX3_listed_25 rfl ?_
        refine ev_iald hX rfl dX3_listed_26 (fun j1 => ?_)
        refine ev_goto (tgt := 33) hX dX3_listed_27 (by decide) ?_
        exact ev_ireti hX hr dX3_listed_33
def rm_X4_playAt : Room := { frames := 6, cells := 0, slots := 0, locals := 149 }
set_option maxRecDepth 20000 in
theorem in_X4_playAt_X4 : ∀ w ∈ u_ws RX4 TX4 7, w ∈ wsX4_playAt := by decide +kernel
set_option maxHeartbeats 4000000 in
set_option maxRecDepth 100000 in
theorem c_X4_playAt (l : Launch) (D : va_G) (cI cC : ClassId) (td : Nat → Option Nat) (a1 : Int32) (w : mvW) : ∀ z, f_X4_playAt a1 w = some z → mv_Ci l D vwCl cI cC tbX td yX4_playAt wsX4_playAt rm_X4_playAt shX w [.inr (.inl 0), .inl a1] z := by
  refine mv_starti (own := RX4) rfl (by decide) rfl rfl (L0 := [some (.inr (.inl 0)), some (.inl a1)]) rfl (fun p e s m args below meth c A ad0 hX hr => ?_)
  rw [f_X4_playAt]
  refine ev_iload_n hX dX4_playAt_0 rfl ?_
  refine ev_if_ge (tgt := 8) hX dX4_playAt_1 (by decide) ?_ ?_
  · refine ev_aload_n hX dX4_playAt_8 rfl ?_
    refine ev_getr (k := 1) hX (T := TX4) in_X4_playAt_X4 rfl rfl rfl (show Cond.fieldLink RX4 21 "FiveShogi" "rules" "LFiveShogi$Rules;" ∈ _ by decide +kernel) rfl dX4_playAt_9 ?_
    refine ev_callVi hX (k0 := 4) (As := []) (rm := rm_X3_findPlays) (c_X3_findPlays l D cI cC td w) (cwV 0 hX.ts gX4_playAt_X3_findPlays rfl rfl rfl (by decide +kernel) ⟨Nat.le_of_ble_eq_true rfl, Nat.le_of_ble_eq_true rfl⟩) rfl rfl rfl rfl rfl rfl ⟨Nat.le_of_ble_eq_true rfl, Nat.le_of_ble_eq_true rfl⟩ dX4_playAt_12 rfl (fun z1 hz1 => ?_)
    refine ev_pop hX dX4_playAt_15 ?_
    refine ev_iload_n hX dX4_playAt_16 rfl ?_
    refine ev_aload_n hX dX4_playAt_17 rfl ?_
    refine ev_getr (k := 1) hX (T := TX4) in_X4_playAt_X4 rfl rfl rfl (show Cond.fieldLink RX4 21 "FiveShogi" "rules" "LFiveShogi$Rules;" ∈ _ by decide +kernel) rfl dX4_playAt_18 ?_
    refine ev_callVi hX (k0 := 4) (As := []) (rm := rm_X3_listPlays) (c_X3_listPlays l D cI cC td z1.2) (cwV 0 hX.ts gX4_playAt_X3_listPlays rfl rfl rfl (by decide +kernel) ⟨Nat.le_of_ble_eq_true rfl, Nat.le_of_ble_eq_true rfl⟩) rfl rfl rfl rfl rfl rfl ⟨Nat.le_of_ble_eq_true rfl, Nat.le_of_ble_eq_true rfl⟩ dX4_playAt_21 rfl (fun z2 hz2 => ?_)
    refine ev_icmp_ge (tgt := 38) hX dX4_playAt_24 (by decide) ?_ ?_
    · refine ev_sipush hX dX4_playAt_38 (v := (-1005)) (by decide +kernel) ?_
      exact ev_ireti hX hr dX4_playAt_41
    · refine ev_aload_n hX dX4_playAt_27 rfl ?_
      refine ev_getr (k := 1) hX (T := TX4) in_X4_playAt_X4 rfl rfl rfl (show Cond.fieldLink RX4 21 "FiveShogi" "rules" "LFiveShogi$Rules;" ∈ _ by decide +kernel) rfl dX4_playAt_28 ?_
      refine ev_iload_n hX dX4_playAt_31 rfl ?_
      refine ev_callVi hX (k0 := 4) (As := [.inl a1]) (rm := rm_X3_listed) (c_X3_listed l D cI cC td a1 z2.2) (cwV 1 hX.ts gX4_playAt_X3_listed rfl rfl rfl (by decide +kernel) ⟨Nat.le_of_ble_eq_true rfl, Nat.le_of_ble_eq_true rfl⟩) rfl rfl rfl rfl rfl rfl ⟨Nat.le_of_ble_eq_true rfl, Nat.le_of_ble_eq_true rfl⟩ dX4_playAt_32 rfl (fun z3 hz3 => ?_)
      refine ev_goto (tgt := 41) hX dX4_playAt_35 (by decide) ?_
      exact ev_ireti hX hr dX4_playAt_41
  · refine ev_sipush hX dX4_playAt_4 (v := (-1002)) (by decide +kernel) ?_
    exact ev_ireti hX hr dX4_playAt_7
def rm_X5_playAt : Room := { frames := 7, cells := 0, slots := 0, locals := 175 }
set_option maxHeartbeats 4000000 in
set_option maxRecDepth 100000 in
theorem e_X5_playAt_12 (hX : mv_X p s m args meth c D vwCl cI cC tbX td A cX5_playAt 4 RX5 wsX5_playAt) (hr : meth.sig.returnType = (some .int)) : ∀ (n : Nat) (x2 : Int32) (x3 : Int32) (w : mvW), EV p l e (headSpec wsX5_playAt rm_X5_playAt).room s m args below meth c D vwCl cI cC td A (fun a => a = ad0) (mv_Qi below args s D vwCl cI cC shM ad0 A) 0 0 shM [some (.inr (.inl 0)), none, some (.inl x2), some (.inl x3)] [] 12 w (f_X5_playAt_12 n x2 x3 w) := by
  intro n
  induction n with
  | zero => intro x2 x3 w; exact ev_none
  | succ n ih =>
    intro x2 x3 w
    rw [f_X5_playAt_12]
    refine ev_iload_n hX dX5_playAt_12 rfl ?_
    refine ev_sipush hX dX5_playAt_13 (v := 1375) (by decide +kernel) ?_
    refine ev_icmp_ge (tgt := 46) hX dX5_playAt_16 (by decide) ?_ ?_
    · refine ev_sipush hX dX5_playAt_46 (v := (-1005)) (by decide +kernel) ?_
      exact ev_ireti hX hr dX5_playAt_49
    · refine ev_aload_n hX dX5_playAt_19 rfl ?_
      refine ev_iconst hX dX5_playAt_20 (v := 0) (by decide +kernel) ?_
      refine ev_iload_n hX dX5_playAt_21 rfl ?_
      refine ev_callVi hX (k0 := 0) (As := [.inl 0, .inl x3]) (rm := rm_X5_reason) (c_X5_reason l D cI cC td 0 x3 w) (cwV 2 hX.ts gX5_playAt_X5_reason rfl rfl rfl (by decide +kernel) ⟨Nat.le_of_ble_eq_true rfl, Nat.le_of_ble_eq_true rfl⟩) rfl rfl rfl rfl rfl rfl ⟨Nat.le_of_ble_eq_true rfl, Nat.le_of_ble_eq_true rfl⟩ dX5_playAt_22 rfl (fun z1 hz1 => ?_)
      refine ev_if_ne (tgt := 40) hX dX5_playAt_25 (by decide) ?_ ?_
      · refine ev_iinc hX dX5_playAt_40 rfl (v := 1) (by decide +kernel) (L' := [some (.inr (.inl 0)), none, some (.inl x2), some (.inl (x3 + 1))]) rfl ?_
        refine ev_goto (tgt := 12) hX dX5_playAt_43 (by decide) ?_
        refine ev_mask [true, false, true, true] (L' := [some (.inr (.inl 0)), none, some (.inl x2), some (.inl (x3 + 1))]) rfl rfl ?_
        exact ih x2 (x3 + 1) z1.2
      · refine ev_iload_n hX dX5_playAt_28 rfl ?_
        refine ev_if_ne (tgt := 37) hX dX5_playAt_29 (by decide) ?_ ?_
        · refine ev_iinc hX dX5_playAt_37 rfl (v := (-1)) (by decide +kernel) (L' := [some (.inr (.inl 0)), none, some (.inl (x2 + (-1))), some (.inl x3)]) rfl ?_
          refine ev_iinc hX dX5_playAt_40 rfl (v := 1) (by decide +kernel) (L' := [some (.inr (.inl 0)), none, some (.inl (x2 + (-1))), some (.inl (x3 + 1))]) rfl ?_
          refine ev_goto (tgt := 12) hX dX5_playAt_43 (by decide) ?_
          refine ev_mask [true, false, true, true] (L' := [some (.inr (.inl 0)), none, some (.inl (x2 + (-1))), some (.inl (x3 + 1))]) rfl rfl ?_
          exact ih (x2 + (-1)) (x3 + 1) z1.2
        · refine ev_iload_n hX dX5_playAt_32 rfl ?_
          refine ev_callSi hX (As := [.inl x3]) (rm := rm_X5_told) (c_X5_told l D cI cC td x3 z1.2) (cwS 1 hX.ts gX5_playAt_X5_told rfl rfl rfl (by decide +kernel) ⟨Nat.le_of_ble_eq_true rfl, Nat.le_of_ble_eq_true rfl⟩) rfl rfl rfl ⟨Nat.le_of_ble_eq_true rfl, Nat.le_of_ble_eq_true rfl⟩ dX5_playAt_33 rfl (fun z2 hz2 => ?_)
          exact ev_ireti hX hr dX5_playAt_36
set_option maxHeartbeats 4000000 in
set_option maxRecDepth 100000 in
theorem c_X5_playAt (l : Launch) (D : va_G) (cI cC : ClassId) (td : Nat → Option Nat) (a1 : Int32) (w : mvW) : ∀ z, f_X5_playAt a1 w = some z → mv_Ci l D vwCl cI cC tbX td yX5_playAt wsX5_playAt rm_X5_playAt shM w [.inr (.inl 0), .inl a1] z := by
  refine mv_starti (own := RX5) rfl (by decide) rfl rfl (L0 := [some (.inr (.inl 0)), some (.inl a1), none, none]) rfl (fun p e s m args below meth c A ad0 hX hr => ?_)
  rw [f_X5_playAt]
  refine ev_iload_n hX dX5_playAt_0 rfl ?_
  refine ev_if_ge (tgt := 8) hX dX5_playAt_1 (by decide) ?_ ?_
  · refine ev_iload_n hX dX5_playAt_8 rfl ?_
    refine ev_istore_n hX dX5_playAt_9 rfl (L' := [some (.inr (.inl 0)), some (.inl a1), some (.inl a1), none]) rfl ?_
    refine ev_iconst hX dX5_playAt_10 (v := 0) (by decide +kernel) ?_
    refine ev_istore_n hX dX5_playAt_11 rfl (L' := [some (.inr (.inl 0)), some (.inl a1), some (.inl a1), some (.inl 0)]) rfl ?_
    refine ev_mask [true, false, true, true] (L' := [some (.inr (.inl 0)), none, some (.inl a1), some (.inl 0)]) rfl rfl ?_
    exact e_X5_playAt_12 hX hr 4096 a1 0 w
  · refine ev_sipush hX dX5_playAt_4 (v := (-1002)) (by decide +kernel) ?_
    exact ev_ireti hX hr dX5_playAt_7
def rm_X3_dropSquares : Room := { frames := 0, cells := 0, slots := 0, locals := 0 }
set_option maxRecDepth 20000 in
theorem in_X3_dropSquares_X3 : ∀ w ∈ u_ws RX3 TX3 6, w ∈ wsX3_dropSquares := by decide +kernel
set_option maxHeartbeats 4000000 in
set_option maxRecDepth 100000 in
theorem c_X3_dropSquares (l : Launch) (D : va_G) (cI cC : ClassId) (td : Nat → Option Nat) (a1 : Int32) (w : mvW) : ∀ z, f_X3_dropSquares a1 w = some z → mv_Ci l D vwCl cI cC tbX td yX3_dropSquares wsX3_dropSquares rm_X3_dropSquares shX w [.inr (.inl 4), .inl a1] z := by
  refine mv_starti (own := RX3) rfl (by decide) rfl rfl (L0 := [some (.inr (.inl 4)), some (.inl a1)]) rfl (fun p e s m args below meth c A ad0 hX hr => ?_)
  rw [f_X3_dropSquares]
  refine ev_iload_n hX dX3_dropSquares_0 rfl ?_
  refine ev_if_lt (tgt := 22) hX dX3_dropSquares_1 (by decide) ?_ ?_
  · refine ev_iconst hX dX3_dropSquares_22 (v := 0) (by decide +kernel) ?_
    exact ev_ireti hX hr dX3_dropSquares_23
  · refine ev_iload_n hX dX3_dropSquares_4 rfl ?_
    refine ev_aload_n hX dX3_dropSquares_5 rfl ?_
    refine ev_getr (k := 3) hX (T := TX3) in_X3_dropSquares_X3 rfl rfl rfl (show Cond.fieldLink RX3 18 "FiveShogi$Rules" "kindDrops" "[I" ∈ _ by decide +kernel) rfl dX3_dropSquares_6 ?_
    refine ev_alen hX rfl (v := 6) (by decide +kernel) dX3_dropSquares_9 ?_
    refine ev_icmp_ge (tgt := 22) hX dX3_dropSquares_10 (by decide) ?_ ?_
    · refine ev_iconst hX dX3_dropSquares_22 (v := 0) (by decide +kernel) ?_
      exact ev_ireti hX hr dX3_dropSquares_23
    · refine ev_aload_n hX dX3_dropSquares_13 rfl ?_
      refine ev_getr (k := 3) hX (T := TX3) in_X3_dropSquares_X3 rfl rfl rfl (show Cond.fieldLink RX3 18 "FiveShogi$Rules" "kindDrops" "[I" ∈ _ by decide +kernel) rfl dX3_dropSquares_14 ?_
      refine ev_iload_n hX dX3_dropSquares_17 rfl ?_
      refine ev_iald hX rfl dX3_dropSquares_18 (fun j1 => ?_)
      refine ev_goto (tgt := 23) hX dX3_dropSquares_19 (by decide) ?_
      exact ev_ireti hX hr dX3_dropSquares_23
def rm_X4_drops : Room := { frames := 6, cells := 0, slots := 0, locals := 149 }
set_option maxRecDepth 20000 in
theorem in_X4_drops_X4 : ∀ w ∈ u_ws RX4 TX4 7, w ∈ wsX4_drops := by decide +kernel
set_option maxHeartbeats 4000000 in
set_option maxRecDepth 100000 in
theorem c_X4_drops (l : Launch) (D : va_G) (cI cC : ClassId) (td : Nat → Option Nat) (a1 : Int32) (w : mvW) : ∀ z, f_X4_drops a1 w = some z → mv_Ci l D vwCl cI cC tbX td yX4_drops wsX4_drops rm_X4_drops shX w [.inr (.inl 0), .inl a1] z := by
  refine mv_starti (own := RX4) rfl (by decide) rfl rfl (L0 := [some (.inr (.inl 0)), some (.inl a1)]) rfl (fun p e s m args below meth c A ad0 hX hr => ?_)
  rw [f_X4_drops]
  refine ev_iload_n hX dX4_drops_0 rfl ?_
  refine ev_callSi hX (As := [.inl a1]) (rm := rm_X4_isHandKind) (c_X4_isHandKind l D cI cC td a1 w) (cwS 1 hX.ts gX4_drops_X4_isHandKind rfl rfl rfl (by decide +kernel) ⟨Nat.le_of_ble_eq_true rfl, Nat.le_of_ble_eq_true rfl⟩) rfl rfl rfl ⟨Nat.le_of_ble_eq_true rfl, Nat.le_of_ble_eq_true rfl⟩ dX4_drops_1 rfl (fun z1 hz1 => ?_)
  refine ev_if_ne (tgt := 11) hX dX4_drops_4 (by decide) ?_ ?_
  · refine ev_aload_n hX dX4_drops_11 rfl ?_
    refine ev_getr (k := 1) hX (T := TX4) in_X4_drops_X4 rfl rfl rfl (show Cond.fieldLink RX4 21 "FiveShogi" "rules" "LFiveShogi$Rules;" ∈ _ by decide +kernel) rfl dX4_drops_12 ?_
    refine ev_callVi hX (k0 := 4) (As := []) (rm := rm_X3_findPlays) (c_X3_findPlays l D cI cC td z1.2) (cwV 0 hX.ts gX4_drops_X3_findPlays rfl rfl rfl (by decide +kernel) ⟨Nat.le_of_ble_eq_true rfl, Nat.le_of_ble_eq_true rfl⟩) rfl rfl rfl rfl rfl rfl ⟨Nat.le_of_ble_eq_true rfl, Nat.le_of_ble_eq_true rfl⟩ dX4_drops_15 rfl (fun z2 hz2 => ?_)
    refine ev_pop hX dX4_drops_18 ?_
    refine ev_aload_n hX dX4_drops_19 rfl ?_
    refine ev_getr (k := 1) hX (T := TX4) in_X4_drops_X4 rfl rfl rfl (show Cond.fieldLink RX4 21 "FiveShogi" "rules" "LFiveShogi$Rules;" ∈ _ by decide +kernel) rfl dX4_drops_20 ?_
    refine ev_iload_n hX dX4_drops_23 rfl ?_
    refine ev_callVi hX (k0 := 4) (As := [.inl a1]) (rm := rm_X3_dropSquares) (c_X3_dropSquares l D cI cC td a1 z2.2) (cwV 1 hX.ts gX4_drops_X3_dropSquares rfl rfl rfl (by decide +kernel) ⟨Nat.le_of_ble_eq_true rfl, Nat.le_of_ble_eq_true rfl⟩) rfl rfl rfl rfl rfl rfl ⟨Nat.le_of_ble_eq_true rfl, Nat.le_of_ble_eq_true rfl⟩ dX4_drops_24 rfl (fun z3 hz3 => ?_)
    exact ev_ireti hX hr dX4_drops_27
  · refine ev_sipush hX dX4_drops_7 (v := (-1001)) (by decide +kernel) ?_
    exact ev_ireti hX hr dX4_drops_10
def rm_X5_drops : Room := { frames := 7, cells := 0, slots := 0, locals := 175 }
set_option maxHeartbeats 4000000 in
set_option maxRecDepth 100000 in
theorem e_X5_drops_15 (hX : mv_X p s m args meth c D vwCl cI cC tbX td A cX5_drops 4 RX5 wsX5_drops) (hr : meth.sig.returnType = (some .int)) : ∀ (n : Nat) (x1 : Int32) (x2 : Int32) (x3 : Int32) (w : mvW), EV p l e (headSpec wsX5_drops rm_X5_drops).room s m args below meth c D vwCl cI cC td A (fun a => a = ad0) (mv_Qi below args s D vwCl cI cC shM ad0 A) 0 0 shM [some (.inr (.inl 0)), some (.inl x1), some (.inl x2), some (.inl x3)] [] 15 w (f_X5_drops_15 n x1 x2 x3 w) := by
  intro n
  induction n with
  | zero => intro x1 x2 x3 w; exact ev_none
  | succ n ih =>
    intro x1 x2 x3 w
    rw [f_X5_drops_15]
    refine ev_iload_n hX dX5_drops_15 rfl ?_
    refine ev_bipush hX dX5_drops_16 (v := 25) (by decide +kernel) ?_
    refine ev_icmp_ge (tgt := 57) hX dX5_drops_18 (by decide) ?_ ?_
    · refine ev_iload_n hX dX5_drops_57 rfl ?_
      exact ev_ireti hX hr dX5_drops_58
    · refine ev_iload_n hX dX5_drops_21 rfl ?_
      refine ev_aload_n hX dX5_drops_22 rfl ?_
      refine ev_iconst hX dX5_drops_23 (v := 0) (by decide +kernel) ?_
      refine ev_sipush hX dX5_drops_24 (v := 1250) (by decide +kernel) ?_
      refine ev_bipush hX dX5_drops_27 (v := 25) (by decide +kernel) ?_
      refine ev_iload_n hX dX5_drops_29 rfl ?_
      refine ev_iconst hX dX5_drops_30 (v := 1) (by decide +kernel) ?_
      refine ev_isub hX dX5_drops_31 ?_
      refine ev_imul hX dX5_drops_32 ?_
      refine ev_iadd hX dX5_drops_33 ?_
      refine ev_iload_n hX dX5_drops_34 rfl ?_
      refine ev_iadd hX dX5_drops_35 ?_
      refine ev_callVi hX (k0 := 0) (As := [.inl 0, .inl ((1250 + (25 * (x1 - 1))) + x3)]) (rm := rm_X5_reason) (c_X5_reason l D cI cC td 0 ((1250 + (25 * (x1 - 1))) + x3) w) (cwV 2 hX.ts gX5_drops_X5_reason rfl rfl rfl (by decide +kernel) ⟨Nat.le_of_ble_eq_true rfl, Nat.le_of_ble_eq_true rfl⟩) rfl rfl rfl rfl rfl rfl ⟨Nat.le_of_ble_eq_true rfl, Nat.le_of_ble_eq_true rfl⟩ dX5_drops_36 rfl (fun z2 hz2 => ?_)
      refine ev_if_ne (tgt := 48) hX dX5_drops_39 (by decide) ?_ ?_
      · refine ev_iconst hX dX5_drops_48 (v := 0) (by decide +kernel) ?_
        refine ev_ior hX dX5_drops_49 ?_
        refine ev_istore_n hX dX5_drops_50 rfl (L' := [some (.inr (.inl 0)), some (.inl x1), some (.inl (x2 ||| 0)), some (.inl x3)]) rfl ?_
        refine ev_iinc hX dX5_drops_51 rfl (v := 1) (by decide +kernel) (L' := [some (.inr (.inl 0)), some (.inl x1), some (.inl (x2 ||| 0)), some (.inl (x3 + 1))]) rfl ?_
        refine ev_goto (tgt := 15) hX dX5_drops_54 (by decide) ?_
        refine ev_mask [true, true, true, true] (L' := [some (.inr (.inl 0)), some (.inl x1), some (.inl (x2 ||| 0)), some (.inl (x3 + 1))]) rfl rfl ?_
        exact ih x1 (x2 ||| 0) (x3 + 1) z2.2
      · refine ev_iconst hX dX5_drops_42 (v := 1) (by decide +kernel) ?_
        refine ev_iload_n hX dX5_drops_43 rfl ?_
        refine ev_ishl hX dX5_drops_44 ?_
        refine ev_goto (tgt := 49) hX dX5_drops_45 (by decide) ?_
        refine ev_ior hX dX5_drops_49 ?_
        refine ev_istore_n hX dX5_drops_50 rfl (L' := [some (.inr (.inl 0)), some (.inl x1), some (.inl (x2 ||| (1 <<< (x3 &&& 31)))), some (.inl x3)]) rfl ?_
        refine ev_iinc hX dX5_drops_51 rfl (v := 1) (by decide +kernel) (L' := [some (.inr (.inl 0)), some (.inl x1), some (.inl (x2 ||| (1 <<< (x3 &&& 31)))), some (.inl (x3 + 1))]) rfl ?_
        refine ev_goto (tgt := 15) hX dX5_drops_54 (by decide) ?_
        refine ev_mask [true, true, true, true] (L' := [some (.inr (.inl 0)), some (.inl x1), some (.inl (x2 ||| (1 <<< (x3 &&& 31)))), some (.inl (x3 + 1))]) rfl rfl ?_
        exact ih x1 (x2 ||| (1 <<< (x3 &&& 31))) (x3 + 1) z2.2
set_option maxHeartbeats 4000000 in
set_option maxRecDepth 100000 in
theorem c_X5_drops (l : Launch) (D : va_G) (cI cC : ClassId) (td : Nat → Option Nat) (a1 : Int32) (w : mvW) : ∀ z, f_X5_drops a1 w = some z → mv_Ci l D vwCl cI cC tbX td yX5_drops wsX5_drops rm_X5_drops shM w [.inr (.inl 0), .inl a1] z := by
  refine mv_starti (own := RX5) rfl (by decide) rfl rfl (L0 := [some (.inr (.inl 0)), some (.inl a1), none, none]) rfl (fun p e s m args below meth c A ad0 hX hr => ?_)
  rw [f_X5_drops]
  refine ev_iload_n hX dX5_drops_0 rfl ?_
  refine ev_callSi hX (As := [.inl a1]) (rm := rm_X5_isInHand) (c_X5_isInHand l D cI cC td a1 w) (cwS 1 hX.ts gX5_drops_X5_isInHand rfl rfl rfl (by decide +kernel) ⟨Nat.le_of_ble_eq_true rfl, Nat.le_of_ble_eq_true rfl⟩) rfl rfl rfl ⟨Nat.le_of_ble_eq_true rfl, Nat.le_of_ble_eq_true rfl⟩ dX5_drops_1 rfl (fun z1 hz1 => ?_)
  refine ev_if_ne (tgt := 11) hX dX5_drops_4 (by decide) ?_ ?_
  · refine ev_iconst hX dX5_drops_11 (v := 0) (by decide +kernel) ?_
    refine ev_istore_n hX dX5_drops_12 rfl (L' := [some (.inr (.inl 0)), some (.inl a1), some (.inl 0), none]) rfl ?_
    refine ev_iconst hX dX5_drops_13 (v := 0) (by decide +kernel) ?_
    refine ev_istore_n hX dX5_drops_14 rfl (L' := [some (.inr (.inl 0)), some (.inl a1), some (.inl 0), some (.inl 0)]) rfl ?_
    refine ev_mask [true, true, true, true] (L' := [some (.inr (.inl 0)), some (.inl a1), some (.inl 0), some (.inl 0)]) rfl rfl ?_
    exact e_X5_drops_15 hX hr 4096 a1 0 0 z1.2
  · refine ev_sipush hX dX5_drops_7 (v := (-1001)) (by decide +kernel) ?_
    exact ev_ireti hX hr dX5_drops_10
def rm_X4_mate : Room := { frames := 7, cells := 0, slots := 0, locals := 169 }
set_option maxRecDepth 20000 in
theorem in_X4_mate_X4 : ∀ w ∈ u_ws RX4 TX4 7, w ∈ wsX4_mate := by decide +kernel
set_option maxHeartbeats 4000000 in
set_option maxRecDepth 100000 in
theorem e_X4_mate_18 (hX : mv_X p s m args meth c D vwCl cI cC tbX td A cX4_mate 6 RX4 wsX4_mate) (hr : meth.sig.returnType = (some .int)) : ∀ (n : Nat) (x1 : Int32) (x2 : Int32) (w : mvW), EV p l e (headSpec wsX4_mate rm_X4_mate).room s m args below meth c D vwCl cI cC td A (fun a => a = ad0) (mv_Qi below args s D vwCl cI cC shX ad0 A) 0 0 shX [some (.inr (.inl 0)), some (.inl x1), some (.inl x2), none, none, none] [] 18 w (f_X4_mate_18 n x1 x2 w) := by
  intro n
  induction n with
  | zero => intro x1 x2 w; exact ev_none
  | succ n ih =>
    intro x1 x2 w
    rw [f_X4_mate_18]
    refine ev_iload_n hX dX4_mate_18 rfl ?_
    refine ev_iload_n hX dX4_mate_19 rfl ?_
    refine ev_icmp_ge (tgt := 74) hX dX4_mate_20 (by decide) ?_ ?_
    · refine ev_sipush hX dX4_mate_74 (v := (-1005)) (by decide +kernel) ?_
      exact ev_ireti hX hr dX4_mate_77
    · refine ev_aload_n hX dX4_mate_23 rfl ?_
      refine ev_getr (k := 1) hX (T := TX4) in_X4_mate_X4 rfl rfl rfl (show Cond.fieldLink RX4 21 "FiveShogi" "rules" "LFiveShogi$Rules;" ∈ _ by decide +kernel) rfl dX4_mate_24 ?_
      refine ev_iload_n hX dX4_mate_27 rfl ?_
      refine ev_callVi hX (k0 := 4) (As := [.inl x2]) (rm := rm_X3_listed) (c_X3_listed l D cI cC td x2 w) (cwV 1 hX.ts gX4_mate_X3_listed rfl rfl rfl (by decide +kernel) ⟨Nat.le_of_ble_eq_true rfl, Nat.le_of_ble_eq_true rfl⟩) rfl rfl rfl rfl rfl rfl ⟨Nat.le_of_ble_eq_true rfl, Nat.le_of_ble_eq_true rfl⟩ dX4_mate_28 rfl (fun z3 hz3 => ?_)
      refine ev_istore_n hX dX4_mate_31 rfl (L' := [some (.inr (.inl 0)), some (.inl x1), some (.inl x2), some (.inl z3.1), none, none]) rfl ?_
      refine ev_aload_n hX dX4_mate_32 rfl ?_
      refine ev_getr (k := 0) hX (T := TX4) in_X4_mate_X4 rfl rfl rfl (show Cond.fieldLink RX4 12 "FiveShogi" "position" "LFiveShogi$Position;" ∈ _ by decide +kernel) rfl dX4_mate_33 ?_
      refine ev_iload_n hX dX4_mate_36 rfl ?_
      refine ev_callVi hX (k0 := 1) (As := [.inl z3.1]) (rm := rm_X2_apply) (c_X2_apply l D cI cC td z3.1 z3.2) (cwV 1 hX.ts gX4_mate_X2_apply rfl rfl rfl (by decide +kernel) ⟨Nat.le_of_ble_eq_true rfl, Nat.le_of_ble_eq_true rfl⟩) rfl rfl rfl rfl rfl rfl ⟨Nat.le_of_ble_eq_true rfl, Nat.le_of_ble_eq_true rfl⟩ dX4_mate_37 rfl (fun z4 hz4 => ?_)
      refine ev_istore hX dX4_mate_40 rfl (L' := [some (.inr (.inl 0)), some (.inl x1), some (.inl x2), some (.inl z3.1), some (.inl z4.1), none]) rfl ?_
      refine ev_aload_n hX dX4_mate_42 rfl ?_
      refine ev_getr (k := 1) hX (T := TX4) in_X4_mate_X4 rfl rfl rfl (show Cond.fieldLink RX4 21 "FiveShogi" "rules" "LFiveShogi$Rules;" ∈ _ by decide +kernel) rfl dX4_mate_43 ?_
      refine ev_callVi hX (k0 := 4) (As := []) (rm := rm_X3_isMated) (c_X3_isMated l D cI cC td z4.2) (cwV 0 hX.ts gX4_mate_X3_isMated rfl rfl rfl (by decide +kernel) ⟨Nat.le_of_ble_eq_true rfl, Nat.le_of_ble_eq_true rfl⟩) rfl rfl rfl rfl rfl rfl ⟨Nat.le_of_ble_eq_true rfl, Nat.le_of_ble_eq_true rfl⟩ dX4_mate_46 rfl (fun z5 hz5 => ?_)
      refine ev_istore hX dX4_mate_49 rfl (L' := [some (.inr (.inl 0)), some (.inl x1), some (.inl x2), some (.inl z3.1), some (.inl z4.1), some (.inl z5.1)]) rfl ?_
      refine ev_aload_n hX dX4_mate_51 rfl ?_
      refine ev_getr (k := 0) hX (T := TX4) in_X4_mate_X4 rfl rfl rfl (show Cond.fieldLink RX4 12 "FiveShogi" "position" "LFiveShogi$Position;" ∈ _ by decide +kernel) rfl dX4_mate_52 ?_
      refine ev_iload_n hX dX4_mate_55 rfl ?_
      refine ev_iload hX dX4_mate_56 rfl ?_
      refine ev_callVv hX (k0 := 1) (As := [.inl z3.1, .inl z4.1]) (rm := rm_X2_takeBack) (c_X2_takeBack l D cI cC td z3.1 z4.1 z5.2) (cwV 2 hX.ts gX4_mate_X2_takeBack rfl rfl rfl (by decide +kernel) ⟨Nat.le_of_ble_eq_true rfl, Nat.le_of_ble_eq_true rfl⟩) rfl rfl rfl rfl rfl rfl ⟨Nat.le_of_ble_eq_true rfl, Nat.le_of_ble_eq_true rfl⟩ dX4_mate_58 rfl (fun z6 hz6 => ?_)
      refine ev_iload hX dX4_mate_61 rfl ?_
      refine ev_if_eq (tgt := 68) hX dX4_mate_63 (by decide) ?_ ?_
      · refine ev_iinc hX dX4_mate_68 rfl (v := 1) (by decide +kernel) (L' := [some (.inr (.inl 0)), some (.inl x1), some (.inl (x2 + 1)), some (.inl z3.1), some (.inl z4.1), some (.inl z5.1)]) rfl ?_
        refine ev_goto (tgt := 18) hX dX4_mate_71 (by decide) ?_
        refine ev_mask [true, true, true, false, false, false] (L' := [some (.inr (.inl 0)), some (.inl x1), some (.inl (x2 + 1)), none, none, none]) rfl rfl ?_
        exact ih x1 (x2 + 1) z6
      · refine ev_iload_n hX dX4_mate_66 rfl ?_
        exact ev_ireti hX hr dX4_mate_67
set_option maxHeartbeats 4000000 in
set_option maxRecDepth 100000 in
theorem c_X4_mate (l : Launch) (D : va_G) (cI cC : ClassId) (td : Nat → Option Nat) (w : mvW) : ∀ z, f_X4_mate w = some z → mv_Ci l D vwCl cI cC tbX td yX4_mate wsX4_mate rm_X4_mate shX w [.inr (.inl 0)] z := by
  refine mv_starti (own := RX4) rfl (by decide) rfl rfl (L0 := [some (.inr (.inl 0)), none, none, none, none, none]) rfl (fun p e s m args below meth c A ad0 hX hr => ?_)
  rw [f_X4_mate]
  refine ev_aload_n hX dX4_mate_0 rfl ?_
  refine ev_getr (k := 1) hX (T := TX4) in_X4_mate_X4 rfl rfl rfl (show Cond.fieldLink RX4 21 "FiveShogi" "rules" "LFiveShogi$Rules;" ∈ _ by decide +kernel) rfl dX4_mate_1 ?_
  refine ev_callVi hX (k0 := 4) (As := []) (rm := rm_X3_findPlays) (c_X3_findPlays l D cI cC td w) (cwV 0 hX.ts gX4_mate_X3_findPlays rfl rfl rfl (by decide +kernel) ⟨Nat.le_of_ble_eq_true rfl, Nat.le_of_ble_eq_true rfl⟩) rfl rfl rfl rfl rfl rfl ⟨Nat.le_of_ble_eq_true rfl, Nat.le_of_ble_eq_true rfl⟩ dX4_mate_4 rfl (fun z1 hz1 => ?_)
  refine ev_pop hX dX4_mate_7 ?_
  refine ev_aload_n hX dX4_mate_8 rfl ?_
  refine ev_getr (k := 1) hX (T := TX4) in_X4_mate_X4 rfl rfl rfl (show Cond.fieldLink RX4 21 "FiveShogi" "rules" "LFiveShogi$Rules;" ∈ _ by decide +kernel) rfl dX4_mate_9 ?_
  refine ev_callVi hX (k0 := 4) (As := []) (rm := rm_X3_listPlays) (c_X3_listPlays l D cI cC td z1.2) (cwV 0 hX.ts gX4_mate_X3_listPlays rfl rfl rfl (by decide +kernel) ⟨Nat.le_of_ble_eq_true rfl, Nat.le_of_ble_eq_true rfl⟩) rfl rfl rfl rfl rfl rfl ⟨Nat.le_of_ble_eq_true rfl, Nat.le_of_ble_eq_true rfl⟩ dX4_mate_12 rfl (fun z2 hz2 => ?_)
  refine ev_istore_n hX dX4_mate_15 rfl (L' := [some (.inr (.inl 0)), some (.inl z2.1), none, none, none, none]) rfl ?_
  refine ev_iconst hX dX4_mate_16 (v := 0) (by decide +kernel) ?_
  refine ev_istore_n hX dX4_mate_17 rfl (L' := [some (.inr (.inl 0)), some (.inl z2.1), some (.inl 0), none, none, none]) rfl ?_
  refine ev_mask [true, true, true, false, false, false] (L' := [some (.inr (.inl 0)), some (.inl z2.1), some (.inl 0), none, none, none]) rfl rfl ?_
  exact e_X4_mate_18 hX hr 4096 z2.1 0 z2.2
def rm_X5_mate : Room := { frames := 9, cells := 0, slots := 0, locals := 219 }
set_option maxHeartbeats 4000000 in
set_option maxRecDepth 100000 in
theorem e_X5_mate_2 (hX : mv_X p s m args meth c D vwCl cI cC tbX td A cX5_mate 2 RX5 wsX5_mate) (hr : meth.sig.returnType = (some .int)) : ∀ (n : Nat) (x1 : Int32) (w : mvW), EV p l e (headSpec wsX5_mate rm_X5_mate).room s m args below meth c D vwCl cI cC td A (fun a => a = ad0) (mv_Qi below args s D vwCl cI cC shM ad0 A) 0 0 shM [some (.inr (.inl 0)), some (.inl x1)] [] 2 w (f_X5_mate_2 n x1 w) := by
  intro n
  induction n with
  | zero => intro x1 w; exact ev_none
  | succ n ih =>
    intro x1 w
    rw [f_X5_mate_2]
    refine ev_iload_n hX dX5_mate_2 rfl ?_
    refine ev_sipush hX dX5_mate_3 (v := 1375) (by decide +kernel) ?_
    refine ev_icmp_ge (tgt := 38) hX dX5_mate_6 (by decide) ?_ ?_
    · refine ev_sipush hX dX5_mate_38 (v := (-1005)) (by decide +kernel) ?_
      exact ev_ireti hX hr dX5_mate_41
    · refine ev_aload_n hX dX5_mate_9 rfl ?_
      refine ev_iconst hX dX5_mate_10 (v := 0) (by decide +kernel) ?_
      refine ev_iload_n hX dX5_mate_11 rfl ?_
      refine ev_callVi hX (k0 := 0) (As := [.inl 0, .inl x1]) (rm := rm_X5_reason) (c_X5_reason l D cI cC td 0 x1 w) (cwV 2 hX.ts gX5_mate_X5_reason rfl rfl rfl (by decide +kernel) ⟨Nat.le_of_ble_eq_true rfl, Nat.le_of_ble_eq_true rfl⟩) rfl rfl rfl rfl rfl rfl ⟨Nat.le_of_ble_eq_true rfl, Nat.le_of_ble_eq_true rfl⟩ dX5_mate_12 rfl (fun z1 hz1 => ?_)
      refine ev_if_ne (tgt := 32) hX dX5_mate_15 (by decide) ?_ ?_
      · refine ev_iinc hX dX5_mate_32 rfl (v := 1) (by decide +kernel) (L' := [some (.inr (.inl 0)), some (.inl (x1 + 1))]) rfl ?_
        refine ev_goto (tgt := 2) hX dX5_mate_35 (by decide) ?_
        refine ev_mask [true, true] (L' := [some (.inr (.inl 0)), some (.inl (x1 + 1))]) rfl rfl ?_
        exact ih (x1 + 1) z1.2
      · refine ev_aload_n hX dX5_mate_18 rfl ?_
        refine ev_bipush hX dX5_mate_19 (v := 40) (by decide +kernel) ?_
        refine ev_callVi hX (k0 := 0) (As := [.inl 40]) (rm := rm_X5_isMated) (c_X5_isMated l D cI cC td 40 z1.2) (cwV 1 hX.ts gX5_mate_X5_isMated rfl rfl rfl (by decide +kernel) ⟨Nat.le_of_ble_eq_true rfl, Nat.le_of_ble_eq_true rfl⟩) rfl rfl rfl rfl rfl rfl ⟨Nat.le_of_ble_eq_true rfl, Nat.le_of_ble_eq_true rfl⟩ dX5_mate_21 rfl (fun z2 hz2 => ?_)
        refine ev_if_eq (tgt := 32) hX dX5_mate_24 (by decide) ?_ ?_
        · refine ev_iinc hX dX5_mate_32 rfl (v := 1) (by decide +kernel) (L' := [some (.inr (.inl 0)), some (.inl (x1 + 1))]) rfl ?_
          refine ev_goto (tgt := 2) hX dX5_mate_35 (by decide) ?_
          refine ev_mask [true, true] (L' := [some (.inr (.inl 0)), some (.inl (x1 + 1))]) rfl rfl ?_
          exact ih (x1 + 1) z2.2
        · refine ev_iload_n hX dX5_mate_27 rfl ?_
          refine ev_callSi hX (As := [.inl x1]) (rm := rm_X5_told) (c_X5_told l D cI cC td x1 z2.2) (cwS 1 hX.ts gX5_mate_X5_told rfl rfl rfl (by decide +kernel) ⟨Nat.le_of_ble_eq_true rfl, Nat.le_of_ble_eq_true rfl⟩) rfl rfl rfl ⟨Nat.le_of_ble_eq_true rfl, Nat.le_of_ble_eq_true rfl⟩ dX5_mate_28 rfl (fun z3 hz3 => ?_)
          exact ev_ireti hX hr dX5_mate_31
set_option maxHeartbeats 4000000 in
set_option maxRecDepth 100000 in
theorem c_X5_mate (l : Launch) (D : va_G) (cI cC : ClassId) (td : Nat → Option Nat) (w : mvW) : ∀ z, f_X5_mate w = some z → mv_Ci l D vwCl cI cC tbX td yX5_mate wsX5_mate rm_X5_mate shM w [.inr (.inl 0)] z := by
  refine mv_starti (own := RX5) rfl (by decide) rfl rfl (L0 := [some (.inr (.inl 0)), none]) rfl (fun p e s m args below meth c A ad0 hX hr => ?_)
  rw [f_X5_mate]
  refine ev_iconst hX dX5_mate_0 (v := 0) (by decide +kernel) ?_
  refine ev_istore_n hX dX5_mate_1 rfl (L' := [some (.inr (.inl 0)), some (.inl 0)]) rfl ?_
  refine ev_mask [true, true] (L' := [some (.inr (.inl 0)), some (.inl 0)]) rfl rfl ?_
  exact e_X5_mate_2 hX hr 4096 0 w
def rm_X4_tightest : Room := { frames := 6, cells := 0, slots := 0, locals := 149 }
set_option maxRecDepth 20000 in
theorem in_X4_tightest_X4 : ∀ w ∈ u_ws RX4 TX4 7, w ∈ wsX4_tightest := by decide +kernel
set_option maxHeartbeats 4000000 in
set_option maxRecDepth 100000 in
theorem e_X4_tightest_123 (hX : mv_X p s m args meth c D vwCl cI cC tbX td A cX4_tightest 11 RX4 wsX4_tightest) (hr : meth.sig.returnType = (some .int)) (k37 : Int32 → Int32 → Int32 → Int32 → Int32 → Int32 → mvW → Option (Int32 × mvW)) (hk37 : ∀ (x1 : Int32) (x2 : Int32) (x3 : Int32) (x4 : Int32) (x5 : Int32) (x6 : Int32) (w : mvW), EV p l e (headSpec wsX4_tightest rm_X4_tightest).room s m args below meth c D vwCl cI cC td A (fun a => a = ad0) (mv_Qi below args s D vwCl cI cC shX ad0 A) 0 0 shX [some (.inr (.inl 0)), some (.inl x1), some (.inl x2), some (.inl x3), some (.inl x4), some (.inl x5), some (.inl x6), none, none, none, none] [] 37 w (k37 x1 x2 x3 x4 x5 x6 w)) (x1 : Int32) (x2 : Int32) (x6 : Int32) (x7 : Int32) (x9 : Int32) (x10 : Int32) (w : mvW) : EV p l e (headSpec wsX4_tightest rm_X4_tightest).room s m args below meth c D vwCl cI cC td A (fun a => a = ad0) (mv_Qi below args s D vwCl cI cC shX ad0 A) 0 0 shX [some (.inr (.inl 0)), some (.inl x1), some (.inl x2), none, none, none, some (.inl x6), some (.inl x7), none, some (.inl x9), some (.inl x10)] [] 123 w (f_X4_tightest_123 k37 x1 x2 x6 x7 x9 x10 w) := by
  rw [f_X4_tightest_123]
  refine ev_iload hX dX4_tightest_123 rfl ?_
  refine ev_istore_n hX dX4_tightest_125 rfl (L' := [some (.inr (.inl 0)), some (.inl x1), some (.inl x2), some (.inl x7), none, none, some (.inl x6), some (.inl x7), none, some (.inl x9), some (.inl x10)]) rfl ?_
  refine ev_iload hX dX4_tightest_126 rfl ?_
  refine ev_istore hX dX4_tightest_128 rfl (L' := [some (.inr (.inl 0)), some (.inl x1), some (.inl x2), some (.inl x7), some (.inl x9), none, some (.inl x6), some (.inl x7), none, some (.inl x9), some (.inl x10)]) rfl ?_
  refine ev_iload hX dX4_tightest_130 rfl ?_
  refine ev_istore hX dX4_tightest_132 rfl (L' := [some (.inr (.inl 0)), some (.inl x1), some (.inl x2), some (.inl x7), some (.inl x9), some (.inl x10), some (.inl x6), some (.inl x7), none, some (.inl x9), some (.inl x10)]) rfl ?_
  refine ev_iinc hX dX4_tightest_134 rfl (v := 1) (by decide +kernel) (L' := [some (.inr (.inl 0)), some (.inl x1), some (.inl x2), some (.inl x7), some (.inl x9), some (.inl x10), some (.inl (x6 + 1)), some (.inl x7), none, some (.inl x9), some (.inl x10)]) rfl ?_
  refine ev_goto (tgt := 37) hX dX4_tightest_137 (by decide) ?_
  refine ev_mask [true, true, true, true, true, true, true, false, false, false, false] (L' := [some (.inr (.inl 0)), some (.inl x1), some (.inl x2), some (.inl x7), some (.inl x9), some (.inl x10), some (.inl (x6 + 1)), none, none, none, none]) rfl rfl ?_
  exact hk37 x1 x2 x7 x9 x10 (x6 + 1) w
set_option maxHeartbeats 4000000 in
set_option maxRecDepth 100000 in
theorem e_X4_tightest_37 (hX : mv_X p s m args meth c D vwCl cI cC tbX td A cX4_tightest 11 RX4 wsX4_tightest) (hr : meth.sig.returnType = (some .int)) : ∀ (n : Nat) (x1 : Int32) (x2 : Int32) (x3 : Int32) (x4 : Int32) (x5 : Int32) (x6 : Int32) (w : mvW), EV p l e (headSpec wsX4_tightest rm_X4_tightest).room s m args below meth c D vwCl cI cC td A (fun a => a = ad0) (mv_Qi below args s D vwCl cI cC shX ad0 A) 0 0 shX [some (.inr (.inl 0)), some (.inl x1), some (.inl x2), some (.inl x3), some (.inl x4), some (.inl x5), some (.inl x6), none, none, none, none] [] 37 w (f_X4_tightest_37 n x1 x2 x3 x4 x5 x6 w) := by
  intro n
  induction n with
  | zero => intro x1 x2 x3 x4 x5 x6 w; exact ev_none
  | succ n ih =>
    intro x1 x2 x3 x4 x5 x6 w
    rw [f_X4_tightest_37]
    refine ev_iload hX dX4_tightest_37 rfl ?_
    refine ev_iload_n hX dX4_tightest_39 rfl ?_
    refine ev_icmp_ge (tgt := 140) hX dX4_tightest_40 (by decide) ?_ ?_
    · refine ev_iload_n hX dX4_tightest_140 rfl ?_
      exact ev_ireti hX hr dX4_tightest_141
    · refine ev_aload_n hX dX4_tightest_43 rfl ?_
      refine ev_getr (k := 1) hX (T := TX4) in_X4_tightest_X4 rfl rfl rfl (show Cond.fieldLink RX4 21 "FiveShogi" "rules" "LFiveShogi$Rules;" ∈ _ by decide +kernel) rfl dX4_tightest_44 ?_
      refine ev_iload hX dX4_tightest_47 rfl ?_
      refine ev_callVi hX (k0 := 4) (As := [.inl x6]) (rm := rm_X3_listed) (c_X3_listed l D cI cC td x6 w) (cwV 1 hX.ts gX4_tightest_X3_listed rfl rfl rfl (by decide +kernel) ⟨Nat.le_of_ble_eq_true rfl, Nat.le_of_ble_eq_true rfl⟩) rfl rfl rfl rfl rfl rfl ⟨Nat.le_of_ble_eq_true rfl, Nat.le_of_ble_eq_true rfl⟩ dX4_tightest_49 rfl (fun z4 hz4 => ?_)
      refine ev_istore hX dX4_tightest_52 rfl (L' := [some (.inr (.inl 0)), some (.inl x1), some (.inl x2), some (.inl x3), some (.inl x4), some (.inl x5), some (.inl x6), some (.inl z4.1), none, none, none]) rfl ?_
      refine ev_aload_n hX dX4_tightest_54 rfl ?_
      refine ev_getr (k := 0) hX (T := TX4) in_X4_tightest_X4 rfl rfl rfl (show Cond.fieldLink RX4 12 "FiveShogi" "position" "LFiveShogi$Position;" ∈ _ by decide +kernel) rfl dX4_tightest_55 ?_
      refine ev_iload hX dX4_tightest_58 rfl ?_
      refine ev_callVi hX (k0 := 1) (As := [.inl z4.1]) (rm := rm_X2_apply) (c_X2_apply l D cI cC td z4.1 z4.2) (cwV 1 hX.ts gX4_tightest_X2_apply rfl rfl rfl (by decide +kernel) ⟨Nat.le_of_ble_eq_true rfl, Nat.le_of_ble_eq_true rfl⟩) rfl rfl rfl rfl rfl rfl ⟨Nat.le_of_ble_eq_true rfl, Nat.le_of_ble_eq_true rfl⟩ dX4_tightest_60 rfl (fun z5 hz5 => ?_)
      refine ev_istore hX dX4_tightest_63 rfl (L' := [some (.inr (.inl 0)), some (.inl x1), some (.inl x2), some (.inl x3), some (.inl x4), some (.inl x5), some (.inl x6), some (.inl z4.1), some (.inl z5.1), none, none]) rfl ?_
      refine ev_aload_n hX dX4_tightest_65 rfl ?_
      refine ev_getr (k := 1) hX (T := TX4) in_X4_tightest_X4 rfl rfl rfl (show Cond.fieldLink RX4 21 "FiveShogi" "rules" "LFiveShogi$Rules;" ∈ _ by decide +kernel) rfl dX4_tightest_66 ?_
      refine ev_callVi hX (k0 := 4) (As := []) (rm := rm_X3_findPlays) (c_X3_findPlays l D cI cC td z5.2) (cwV 0 hX.ts gX4_tightest_X3_findPlays rfl rfl rfl (by decide +kernel) ⟨Nat.le_of_ble_eq_true rfl, Nat.le_of_ble_eq_true rfl⟩) rfl rfl rfl rfl rfl rfl ⟨Nat.le_of_ble_eq_true rfl, Nat.le_of_ble_eq_true rfl⟩ dX4_tightest_69 rfl (fun z6 hz6 => ?_)
      refine ev_istore hX dX4_tightest_72 rfl (L' := [some (.inr (.inl 0)), some (.inl x1), some (.inl x2), some (.inl x3), some (.inl x4), some (.inl x5), some (.inl x6), some (.inl z4.1), some (.inl z5.1), some (.inl z6.1), none]) rfl ?_
      refine ev_aload_n hX dX4_tightest_74 rfl ?_
      refine ev_getr (k := 0) hX (T := TX4) in_X4_tightest_X4 rfl rfl rfl (show Cond.fieldLink RX4 12 "FiveShogi" "position" "LFiveShogi$Position;" ∈ _ by decide +kernel) rfl dX4_tightest_75 ?_
      refine ev_iload_n hX dX4_tightest_78 rfl ?_
      refine ev_callVi hX (k0 := 1) (As := [.inl x2]) (rm := rm_X2_worthFor) (c_X2_worthFor l D cI cC td x2 z6.2) (cwV 1 hX.ts gX4_tightest_X2_worthFor rfl rfl rfl (by decide +kernel) ⟨Nat.le_of_ble_eq_true rfl, Nat.le_of_ble_eq_true rfl⟩) rfl rfl rfl rfl rfl rfl ⟨Nat.le_of_ble_eq_true rfl, Nat.le_of_ble_eq_true rfl⟩ dX4_tightest_79 rfl (fun z7 hz7 => ?_)
      refine ev_istore hX dX4_tightest_82 rfl (L' := [some (.inr (.inl 0)), some (.inl x1), some (.inl x2), some (.inl x3), some (.inl x4), some (.inl x5), some (.inl x6), some (.inl z4.1), some (.inl z5.1), some (.inl z6.1), some (.inl z7.1)]) rfl ?_
      refine ev_aload_n hX dX4_tightest_84 rfl ?_
      refine ev_getr (k := 0) hX (T := TX4) in_X4_tightest_X4 rfl rfl rfl (show Cond.fieldLink RX4 12 "FiveShogi" "position" "LFiveShogi$Position;" ∈ _ by decide +kernel) rfl dX4_tightest_85 ?_
      refine ev_iload hX dX4_tightest_88 rfl ?_
      refine ev_iload hX dX4_tightest_90 rfl ?_
      refine ev_callVv hX (k0 := 1) (As := [.inl z4.1, .inl z5.1]) (rm := rm_X2_takeBack) (c_X2_takeBack l D cI cC td z4.1 z5.1 z7.2) (cwV 2 hX.ts gX4_tightest_X2_takeBack rfl rfl rfl (by decide +kernel) ⟨Nat.le_of_ble_eq_true rfl, Nat.le_of_ble_eq_true rfl⟩) rfl rfl rfl rfl rfl rfl ⟨Nat.le_of_ble_eq_true rfl, Nat.le_of_ble_eq_true rfl⟩ dX4_tightest_92 rfl (fun z8 hz8 => ?_)
      refine ev_iload_n hX dX4_tightest_95 rfl ?_
      refine ev_sipush hX dX4_tightest_96 (v := (-1005)) (by decide +kernel) ?_
      refine ev_icmp_eq (tgt := 123) hX dX4_tightest_99 (by decide) ?_ ?_
      · refine ev_mask [true, true, true, false, false, false, true, true, false, true, true] (L' := [some (.inr (.inl 0)), some (.inl x1), some (.inl x2), none, none, none, some (.inl x6), some (.inl z4.1), none, some (.inl z6.1), some (.inl z7.1)]) rfl rfl ?_
        exact e_X4_tightest_123 hX hr (fun x1' x2' x3' x4' x5' x6' w' => f_X4_tightest_37 n x1' x2' x3' x4' x5' x6' w') (fun x1' x2' x3' x4' x5' x6' w' => ih x1' x2' x3' x4' x5' x6' w') x1 x2 x6 z4.1 z6.1 z7.1 z8
      · refine ev_iload hX dX4_tightest_102 rfl ?_
        refine ev_iload hX dX4_tightest_104 rfl ?_
        refine ev_icmp_lt (tgt := 123) hX dX4_tightest_106 (by decide) ?_ ?_
        · refine ev_mask [true, true, true, false, false, false, true, true, false, true, true] (L' := [some (.inr (.inl 0)), some (.inl x1), some (.inl x2), none, none, none, some (.inl x6), some (.inl z4.1), none, some (.inl z6.1), some (.inl z7.1)]) rfl rfl ?_
          exact e_X4_tightest_123 hX hr (fun x1' x2' x3' x4' x5' x6' w' => f_X4_tightest_37 n x1' x2' x3' x4' x5' x6' w') (fun x1' x2' x3' x4' x5' x6' w' => ih x1' x2' x3' x4' x5' x6' w') x1 x2 x6 z4.1 z6.1 z7.1 z8
        · refine ev_iload hX dX4_tightest_109 rfl ?_
          refine ev_iload hX dX4_tightest_111 rfl ?_
          refine ev_icmp_ne (tgt := 134) hX dX4_tightest_113 (by decide) ?_ ?_
          · refine ev_iinc hX dX4_tightest_134 rfl (v := 1) (by decide +kernel) (L' := [some (.inr (.inl 0)), some (.inl x1), some (.inl x2), some (.inl x3), some (.inl x4), some (.inl x5), some (.inl (x6 + 1)), some (.inl z4.1), some (.inl z5.1), some (.inl z6.1), some (.inl z7.1)]) rfl ?_
            refine ev_goto (tgt := 37) hX dX4_tightest_137 (by decide) ?_
            refine ev_mask [true, true, true, true, true, true, true, false, false, false, false] (L' := [some (.inr (.inl 0)), some (.inl x1), some (.inl x2), some (.inl x3), some (.inl x4), some (.inl x5), some (.inl (x6 + 1)), none, none, none, none]) rfl rfl ?_
            exact ih x1 x2 x3 x4 x5 (x6 + 1) z8
          · refine ev_iload hX dX4_tightest_116 rfl ?_
            refine ev_iload hX dX4_tightest_118 rfl ?_
            refine ev_icmp_le (tgt := 134) hX dX4_tightest_120 (by decide) ?_ ?_
            · refine ev_iinc hX dX4_tightest_134 rfl (v := 1) (by decide +kernel) (L' := [some (.inr (.inl 0)), some (.inl x1), some (.inl x2), some (.inl x3), some (.inl x4), some (.inl x5), some (.inl (x6 + 1)), some (.inl z4.1), some (.inl z5.1), some (.inl z6.1), some (.inl z7.1)]) rfl ?_
              refine ev_goto (tgt := 37) hX dX4_tightest_137 (by decide) ?_
              refine ev_mask [true, true, true, true, true, true, true, false, false, false, false] (L' := [some (.inr (.inl 0)), some (.inl x1), some (.inl x2), some (.inl x3), some (.inl x4), some (.inl x5), some (.inl (x6 + 1)), none, none, none, none]) rfl rfl ?_
              exact ih x1 x2 x3 x4 x5 (x6 + 1) z8
            · refine ev_mask [true, true, true, false, false, false, true, true, false, true, true] (L' := [some (.inr (.inl 0)), some (.inl x1), some (.inl x2), none, none, none, some (.inl x6), some (.inl z4.1), none, some (.inl z6.1), some (.inl z7.1)]) rfl rfl ?_
              exact e_X4_tightest_123 hX hr (fun x1' x2' x3' x4' x5' x6' w' => f_X4_tightest_37 n x1' x2' x3' x4' x5' x6' w') (fun x1' x2' x3' x4' x5' x6' w' => ih x1' x2' x3' x4' x5' x6' w') x1 x2 x6 z4.1 z6.1 z7.1 z8
set_option maxHeartbeats 4000000 in
set_option maxRecDepth 100000 in
theorem c_X4_tightest (l : Launch) (D : va_G) (cI cC : ClassId) (td : Nat → Option Nat) (w : mvW) : ∀ z, f_X4_tightest w = some z → mv_Ci l D vwCl cI cC tbX td yX4_tightest wsX4_tightest rm_X4_tightest shX w [.inr (.inl 0)] z := by
  refine mv_starti (own := RX4) rfl (by decide) rfl rfl (L0 := [some (.inr (.inl 0)), none, none, none, none, none, none, none, none, none, none]) rfl (fun p e s m args below meth c A ad0 hX hr => ?_)
  rw [f_X4_tightest]
  refine ev_aload_n hX dX4_tightest_0 rfl ?_
  refine ev_getr (k := 1) hX (T := TX4) in_X4_tightest_X4 rfl rfl rfl (show Cond.fieldLink RX4 21 "FiveShogi" "rules" "LFiveShogi$Rules;" ∈ _ by decide +kernel) rfl dX4_tightest_1 ?_
  refine ev_callVi hX (k0 := 4) (As := []) (rm := rm_X3_findPlays) (c_X3_findPlays l D cI cC td w) (cwV 0 hX.ts gX4_tightest_X3_findPlays rfl rfl rfl (by decide +kernel) ⟨Nat.le_of_ble_eq_true rfl, Nat.le_of_ble_eq_true rfl⟩) rfl rfl rfl rfl rfl rfl ⟨Nat.le_of_ble_eq_true rfl, Nat.le_of_ble_eq_true rfl⟩ dX4_tightest_4 rfl (fun z1 hz1 => ?_)
  refine ev_pop hX dX4_tightest_7 ?_
  refine ev_aload_n hX dX4_tightest_8 rfl ?_
  refine ev_getr (k := 1) hX (T := TX4) in_X4_tightest_X4 rfl rfl rfl (show Cond.fieldLink RX4 21 "FiveShogi" "rules" "LFiveShogi$Rules;" ∈ _ by decide +kernel) rfl dX4_tightest_9 ?_
  refine ev_callVi hX (k0 := 4) (As := []) (rm := rm_X3_listPlays) (c_X3_listPlays l D cI cC td z1.2) (cwV 0 hX.ts gX4_tightest_X3_listPlays rfl rfl rfl (by decide +kernel) ⟨Nat.le_of_ble_eq_true rfl, Nat.le_of_ble_eq_true rfl⟩) rfl rfl rfl rfl rfl rfl ⟨Nat.le_of_ble_eq_true rfl, Nat.le_of_ble_eq_true rfl⟩ dX4_tightest_12 rfl (fun z2 hz2 => ?_)
  refine ev_istore_n hX dX4_tightest_15 rfl (L' := [some (.inr (.inl 0)), some (.inl z2.1), none, none, none, none, none, none, none, none, none]) rfl ?_
  refine ev_aload_n hX dX4_tightest_16 rfl ?_
  refine ev_getr (k := 0) hX (T := TX4) in_X4_tightest_X4 rfl rfl rfl (show Cond.fieldLink RX4 12 "FiveShogi" "position" "LFiveShogi$Position;" ∈ _ by decide +kernel) rfl dX4_tightest_17 ?_
  refine ev_callVi hX (k0 := 1) (As := []) (rm := rm_X2_sideToPlay) (c_X2_sideToPlay l D cI cC td z2.2) (cwV 0 hX.ts gX4_tightest_X2_sideToPlay rfl rfl rfl (by decide +kernel) ⟨Nat.le_of_ble_eq_true rfl, Nat.le_of_ble_eq_true rfl⟩) rfl rfl rfl rfl rfl rfl ⟨Nat.le_of_ble_eq_true rfl, Nat.le_of_ble_eq_true rfl⟩ dX4_tightest_20 rfl (fun z3 hz3 => ?_)
  refine ev_istore_n hX dX4_tightest_23 rfl (L' := [some (.inr (.inl 0)), some (.inl z2.1), some (.inl z3.1), none, none, none, none, none, none, none, none]) rfl ?_
  refine ev_sipush hX dX4_tightest_24 (v := (-1005)) (by decide +kernel) ?_
  refine ev_istore_n hX dX4_tightest_27 rfl (L' := [some (.inr (.inl 0)), some (.inl z2.1), some (.inl z3.1), some (.inl (-1005)), none, none, none, none, none, none, none]) rfl ?_
  refine ev_iconst hX dX4_tightest_28 (v := 0) (by decide +kernel) ?_
  refine ev_istore hX dX4_tightest_29 rfl (L' := [some (.inr (.inl 0)), some (.inl z2.1), some (.inl z3.1), some (.inl (-1005)), some (.inl 0), none, none, none, none, none, none]) rfl ?_
  refine ev_iconst hX dX4_tightest_31 (v := 0) (by decide +kernel) ?_
  refine ev_istore hX dX4_tightest_32 rfl (L' := [some (.inr (.inl 0)), some (.inl z2.1), some (.inl z3.1), some (.inl (-1005)), some (.inl 0), some (.inl 0), none, none, none, none, none]) rfl ?_
  refine ev_iconst hX dX4_tightest_34 (v := 0) (by decide +kernel) ?_
  refine ev_istore hX dX4_tightest_35 rfl (L' := [some (.inr (.inl 0)), some (.inl z2.1), some (.inl z3.1), some (.inl (-1005)), some (.inl 0), some (.inl 0), some (.inl 0), none, none, none, none]) rfl ?_
  refine ev_mask [true, true, true, true, true, true, true, false, false, false, false] (L' := [some (.inr (.inl 0)), some (.inl z2.1), some (.inl z3.1), some (.inl (-1005)), some (.inl 0), some (.inl 0), some (.inl 0), none, none, none, none]) rfl rfl ?_
  exact e_X4_tightest_37 hX hr 4096 z2.1 z3.1 (-1005) 0 0 0 z3.2
def rm_X5_tightest : Room := { frames := 8, cells := 0, slots := 0, locals := 198 }
set_option maxRecDepth 20000 in
theorem in_X5_tightest_X5 : ∀ w ∈ u_ws RX5 TX5 8, w ∈ wsX5_tightest := by decide +kernel
set_option maxHeartbeats 4000000 in
set_option maxRecDepth 100000 in
theorem e_X5_tightest_110 (hX : mv_X p s m args meth c D vwCl cI cC tbX td A cX5_tightest 8 RX5 wsX5_tightest) (hr : meth.sig.returnType = (some .int)) (k11 : Int32 → Int32 → Int32 → Int32 → mvW → Option (Int32 × mvW)) (hk11 : ∀ (x1 : Int32) (x2 : Int32) (x3 : Int32) (x4 : Int32) (w : mvW), EV p l e (headSpec wsX5_tightest rm_X5_tightest).room s m args below meth c D vwCl cI cC td A (fun a => a = ad0) (mv_Qi below args s D vwCl cI cC shM ad0 A) 0 0 shM [some (.inr (.inl 0)), some (.inl x1), some (.inl x2), some (.inl x3), some (.inl x4), none, none, none] [] 11 w (k11 x1 x2 x3 x4 w)) (x1 : Int32) (x3 : Int32) (x4 : Int32) (x6 : Int32) (x7 : Int32) (s0 : Int32) (w : mvW) : EV p l e (headSpec wsX5_tightest rm_X5_tightest).room s m args below meth c D vwCl cI cC td A (fun a => a = ad0) (mv_Qi below args s D vwCl cI cC shM ad0 A) 0 0 shM [some (.inr (.inl 0)), some (.inl x1), none, some (.inl x3), some (.inl x4), none, some (.inl x6), some (.inl x7)] [.inl s0] 110 w (f_X5_tightest_110 k11 x1 x3 x4 x6 x7 s0 w) := by
  rw [f_X5_tightest_110]
  refine ev_istore_n hX dX5_tightest_110 rfl (L' := [some (.inr (.inl 0)), some (.inl x1), some (.inl s0), some (.inl x3), some (.inl x4), none, some (.inl x6), some (.inl x7)]) rfl ?_
  refine ev_iload hX dX5_tightest_111 rfl ?_
  refine ev_if_eq (tgt := 121) hX dX5_tightest_113 (by decide) ?_ ?_
  · refine ev_iload_n hX dX5_tightest_121 rfl ?_
    refine ev_istore_n hX dX5_tightest_122 rfl (L' := [some (.inr (.inl 0)), some (.inl x1), some (.inl s0), some (.inl x3), some (.inl x4), none, some (.inl x6), some (.inl x7)]) rfl ?_
    refine ev_iinc hX dX5_tightest_123 rfl (v := 1) (by decide +kernel) (L' := [some (.inr (.inl 0)), some (.inl x1), some (.inl s0), some (.inl x3), some (.inl (x4 + 1)), none, some (.inl x6), some (.inl x7)]) rfl ?_
    refine ev_goto (tgt := 11) hX dX5_tightest_126 (by decide) ?_
    refine ev_mask [true, true, true, true, true, false, false, false] (L' := [some (.inr (.inl 0)), some (.inl x1), some (.inl s0), some (.inl x3), some (.inl (x4 + 1)), none, none, none]) rfl rfl ?_
    exact hk11 x1 s0 x3 (x4 + 1) w
  · refine ev_iload hX dX5_tightest_116 rfl ?_
    refine ev_goto (tgt := 122) hX dX5_tightest_118 (by decide) ?_
    refine ev_istore_n hX dX5_tightest_122 rfl (L' := [some (.inr (.inl 0)), some (.inl x1), some (.inl s0), some (.inl x6), some (.inl x4), none, some (.inl x6), some (.inl x7)]) rfl ?_
    refine ev_iinc hX dX5_tightest_123 rfl (v := 1) (by decide +kernel) (L' := [some (.inr (.inl 0)), some (.inl x1), some (.inl s0), some (.inl x6), some (.inl (x4 + 1)), none, some (.inl x6), some (.inl x7)]) rfl ?_
    refine ev_goto (tgt := 11) hX dX5_tightest_126 (by decide) ?_
    refine ev_mask [true, true, true, true, true, false, false, false] (L' := [some (.inr (.inl 0)), some (.inl x1), some (.inl s0), some (.inl x6), some (.inl (x4 + 1)), none, none, none]) rfl rfl ?_
    exact hk11 x1 s0 x6 (x4 + 1) w
set_option maxHeartbeats 4000000 in
set_option maxRecDepth 100000 in
theorem e_X5_tightest_82 (hX : mv_X p s m args meth c D vwCl cI cC tbX td A cX5_tightest 8 RX5 wsX5_tightest) (hr : meth.sig.returnType = (some .int)) (k11 : Int32 → Int32 → Int32 → Int32 → mvW → Option (Int32 × mvW)) (hk11 : ∀ (x1 : Int32) (x2 : Int32) (x3 : Int32) (x4 : Int32) (w : mvW), EV p l e (headSpec wsX5_tightest rm_X5_tightest).room s m args below meth c D vwCl cI cC td A (fun a => a = ad0) (mv_Qi below args s D vwCl cI cC shM ad0 A) 0 0 shM [some (.inr (.inl 0)), some (.inl x1), some (.inl x2), some (.inl x3), some (.inl x4), none, none, none] [] 11 w (k11 x1 x2 x3 x4 w)) (x1 : Int32) (x2 : Int32) (x3 : Int32) (x4 : Int32) (x5 : Int32) (x6 : Int32) (s0 : Int32) (w : mvW) : EV p l e (headSpec wsX5_tightest rm_X5_tightest).room s m args below meth c D vwCl cI cC td A (fun a => a = ad0) (mv_Qi below args s D vwCl cI cC shM ad0 A) 0 0 shM [some (.inr (.inl 0)), some (.inl x1), some (.inl x2), some (.inl x3), some (.inl x4), some (.inl x5), some (.inl x6), none] [.inl s0] 82 w (f_X5_tightest_82 k11 x1 x2 x3 x4 x5 x6 s0 w) := by
  rw [f_X5_tightest_82]
  refine ev_istore hX dX5_tightest_82 rfl (L' := [some (.inr (.inl 0)), some (.inl x1), some (.inl x2), some (.inl x3), some (.inl x4), some (.inl x5), some (.inl x6), some (.inl s0)]) rfl ?_
  refine ev_iload hX dX5_tightest_84 rfl ?_
  refine ev_if_eq (tgt := 97) hX dX5_tightest_86 (by decide) ?_ ?_
  · refine ev_iload_n hX dX5_tightest_97 rfl ?_
    refine ev_istore_n hX dX5_tightest_98 rfl (L' := [some (.inr (.inl 0)), some (.inl x1), some (.inl x2), some (.inl x3), some (.inl x4), some (.inl x5), some (.inl x6), some (.inl s0)]) rfl ?_
    refine ev_iload hX dX5_tightest_99 rfl ?_
    refine ev_if_eq (tgt := 109) hX dX5_tightest_101 (by decide) ?_ ?_
    · refine ev_iload_n hX dX5_tightest_109 rfl ?_
      refine ev_mask [true, true, false, true, true, false, true, true] (L' := [some (.inr (.inl 0)), some (.inl x1), none, some (.inl x3), some (.inl x4), none, some (.inl x6), some (.inl s0)]) rfl rfl ?_
      exact e_X5_tightest_110 hX hr k11 hk11 x1 x3 x4 x6 s0 x2 w
    · refine ev_iload hX dX5_tightest_104 rfl ?_
      refine ev_goto (tgt := 110) hX dX5_tightest_106 (by decide) ?_
      refine ev_mask [true, true, false, true, true, false, true, true] (L' := [some (.inr (.inl 0)), some (.inl x1), none, some (.inl x3), some (.inl x4), none, some (.inl x6), some (.inl s0)]) rfl rfl ?_
      exact e_X5_tightest_110 hX hr k11 hk11 x1 x3 x4 x6 s0 x5 w
  · refine ev_iload hX dX5_tightest_89 rfl ?_
    refine ev_callSi hX (As := [.inl x4]) (rm := rm_X5_told) (c_X5_told l D cI cC td x4 w) (cwS 1 hX.ts gX5_tightest_X5_told rfl rfl rfl (by decide +kernel) ⟨Nat.le_of_ble_eq_true rfl, Nat.le_of_ble_eq_true rfl⟩) rfl rfl rfl ⟨Nat.le_of_ble_eq_true rfl, Nat.le_of_ble_eq_true rfl⟩ dX5_tightest_91 rfl (fun z4 hz4 => ?_)
    refine ev_goto (tgt := 98) hX dX5_tightest_94 (by decide) ?_
    refine ev_istore_n hX dX5_tightest_98 rfl (L' := [some (.inr (.inl 0)), some (.inl z4.1), some (.inl x2), some (.inl x3), some (.inl x4), some (.inl x5), some (.inl x6), some (.inl s0)]) rfl ?_
    refine ev_iload hX dX5_tightest_99 rfl ?_
    refine ev_if_eq (tgt := 109) hX dX5_tightest_101 (by decide) ?_ ?_
    · refine ev_iload_n hX dX5_tightest_109 rfl ?_
      refine ev_mask [true, true, false, true, true, false, true, true] (L' := [some (.inr (.inl 0)), some (.inl z4.1), none, some (.inl x3), some (.inl x4), none, some (.inl x6), some (.inl s0)]) rfl rfl ?_
      exact e_X5_tightest_110 hX hr k11 hk11 z4.1 x3 x4 x6 s0 x2 z4.2
    · refine ev_iload hX dX5_tightest_104 rfl ?_
      refine ev_goto (tgt := 110) hX dX5_tightest_106 (by decide) ?_
      refine ev_mask [true, true, false, true, true, false, true, true] (L' := [some (.inr (.inl 0)), some (.inl z4.1), none, some (.inl x3), some (.inl x4), none, some (.inl x6), some (.inl s0)]) rfl rfl ?_
      exact e_X5_tightest_110 hX hr k11 hk11 z4.1 x3 x4 x6 s0 x5 z4.2
set_option maxHeartbeats 4000000 in
set_option maxRecDepth 100000 in
theorem e_X5_tightest_11 (hX : mv_X p s m args meth c D vwCl cI cC tbX td A cX5_tightest 8 RX5 wsX5_tightest) (hr : meth.sig.returnType = (some .int)) : ∀ (n : Nat) (x1 : Int32) (x2 : Int32) (x3 : Int32) (x4 : Int32) (w : mvW), EV p l e (headSpec wsX5_tightest rm_X5_tightest).room s m args below meth c D vwCl cI cC td A (fun a => a = ad0) (mv_Qi below args s D vwCl cI cC shM ad0 A) 0 0 shM [some (.inr (.inl 0)), some (.inl x1), some (.inl x2), some (.inl x3), some (.inl x4), none, none, none] [] 11 w (f_X5_tightest_11 n x1 x2 x3 x4 w) := by
  intro n
  induction n with
  | zero => intro x1 x2 x3 x4 w; exact ev_none
  | succ n ih =>
    intro x1 x2 x3 x4 w
    rw [f_X5_tightest_11]
    refine ev_iload hX dX5_tightest_11 rfl ?_
    refine ev_sipush hX dX5_tightest_13 (v := 1375) (by decide +kernel) ?_
    refine ev_icmp_ge (tgt := 129) hX dX5_tightest_16 (by decide) ?_ ?_
    · refine ev_iload_n hX dX5_tightest_129 rfl ?_
      exact ev_ireti hX hr dX5_tightest_130
    · refine ev_aload_n hX dX5_tightest_19 rfl ?_
      refine ev_iconst hX dX5_tightest_20 (v := 0) (by decide +kernel) ?_
      refine ev_iload hX dX5_tightest_21 rfl ?_
      refine ev_callVi hX (k0 := 0) (As := [.inl 0, .inl x4]) (rm := rm_X5_reason) (c_X5_reason l D cI cC td 0 x4 w) (cwV 2 hX.ts gX5_tightest_X5_reason rfl rfl rfl (by decide +kernel) ⟨Nat.le_of_ble_eq_true rfl, Nat.le_of_ble_eq_true rfl⟩) rfl rfl rfl rfl rfl rfl ⟨Nat.le_of_ble_eq_true rfl, Nat.le_of_ble_eq_true rfl⟩ dX5_tightest_23 rfl (fun z1 hz1 => ?_)
      refine ev_if_ne (tgt := 123) hX dX5_tightest_26 (by decide) ?_ ?_
      · refine ev_iinc hX dX5_tightest_123 rfl (v := 1) (by decide +kernel) (L' := [some (.inr (.inl 0)), some (.inl x1), some (.inl x2), some (.inl x3), some (.inl (x4 + 1)), none, none, none]) rfl ?_
        refine ev_goto (tgt := 11) hX dX5_tightest_126 (by decide) ?_
        refine ev_mask [true, true, true, true, true, false, false, false] (L' := [some (.inr (.inl 0)), some (.inl x1), some (.inl x2), some (.inl x3), some (.inl (x4 + 1)), none, none, none]) rfl rfl ?_
        exact ih x1 x2 x3 (x4 + 1) z1.2
      · refine ev_aload_n hX dX5_tightest_29 rfl ?_
        refine ev_bipush hX dX5_tightest_30 (v := 40) (by decide +kernel) ?_
        refine ev_callVi hX (k0 := 0) (As := [.inl 40]) (rm := rm_X5_plays) (c_X5_plays l D cI cC td 40 z1.2) (cwV 1 hX.ts gX5_tightest_X5_plays rfl rfl rfl (by decide +kernel) ⟨Nat.le_of_ble_eq_true rfl, Nat.le_of_ble_eq_true rfl⟩) rfl rfl rfl rfl rfl rfl ⟨Nat.le_of_ble_eq_true rfl, Nat.le_of_ble_eq_true rfl⟩ dX5_tightest_32 rfl (fun z2 hz2 => ?_)
        refine ev_istore hX dX5_tightest_35 rfl (L' := [some (.inr (.inl 0)), some (.inl x1), some (.inl x2), some (.inl x3), some (.inl x4), some (.inl z2.1), none, none]) rfl ?_
        refine ev_aload_n hX dX5_tightest_37 rfl ?_
        refine ev_bipush hX dX5_tightest_38 (v := 40) (by decide +kernel) ?_
        refine ev_aload_n hX dX5_tightest_40 rfl ?_
        refine ev_getr (k := 0) hX (T := TX5) in_X5_tightest_X5 rfl rfl rfl (show Cond.fieldLink RX5 7 "FiveShogiModel" "s" "[I" ∈ _ by decide +kernel) rfl dX5_tightest_41 ?_
        refine ev_bipush hX dX5_tightest_44 (v := 35) (by decide +kernel) ?_
        refine ev_ialdc (j := 35) hX rfl (by decide +kernel) dX5_tightest_46 ?_
        refine ev_callVi hX (k0 := 0) (As := [.inl 40, .inl (z2.2 1 35)]) (rm := rm_X5_worthIn) (c_X5_worthIn l D cI cC td 40 (z2.2 1 35) z2.2) (cwV 2 hX.ts gX5_tightest_X5_worthIn rfl rfl rfl (by decide +kernel) ⟨Nat.le_of_ble_eq_true rfl, Nat.le_of_ble_eq_true rfl⟩) rfl rfl rfl rfl rfl rfl ⟨Nat.le_of_ble_eq_true rfl, Nat.le_of_ble_eq_true rfl⟩ dX5_tightest_47 rfl (fun z3 hz3 => ?_)
        refine ev_istore hX dX5_tightest_50 rfl (L' := [some (.inr (.inl 0)), some (.inl x1), some (.inl x2), some (.inl x3), some (.inl x4), some (.inl z2.1), some (.inl z3.1), none]) rfl ?_
        refine ev_iload_n hX dX5_tightest_52 rfl ?_
        refine ev_sipush hX dX5_tightest_53 (v := (-1005)) (by decide +kernel) ?_
        refine ev_icmp_eq (tgt := 77) hX dX5_tightest_56 (by decide) ?_ ?_
        · refine ev_iconst hX dX5_tightest_77 (v := 1) (by decide +kernel) ?_
          refine ev_goto (tgt := 82) hX dX5_tightest_78 (by decide) ?_
          refine ev_mask [true, true, true, true, true, true, true, false] (L' := [some (.inr (.inl 0)), some (.inl x1), some (.inl x2), some (.inl x3), some (.inl x4), some (.inl z2.1), some (.inl z3.1), none]) rfl rfl ?_
          exact e_X5_tightest_82 hX hr (fun x1' x2' x3' x4' w' => f_X5_tightest_11 n x1' x2' x3' x4' w') (fun x1' x2' x3' x4' w' => ih x1' x2' x3' x4' w') x1 x2 x3 x4 z2.1 z3.1 1 z3.2
        · refine ev_iload hX dX5_tightest_59 rfl ?_
          refine ev_iload_n hX dX5_tightest_61 rfl ?_
          refine ev_icmp_lt (tgt := 77) hX dX5_tightest_62 (by decide) ?_ ?_
          · refine ev_iconst hX dX5_tightest_77 (v := 1) (by decide +kernel) ?_
            refine ev_goto (tgt := 82) hX dX5_tightest_78 (by decide) ?_
            refine ev_mask [true, true, true, true, true, true, true, false] (L' := [some (.inr (.inl 0)), some (.inl x1), some (.inl x2), some (.inl x3), some (.inl x4), some (.inl z2.1), some (.inl z3.1), none]) rfl rfl ?_
            exact e_X5_tightest_82 hX hr (fun x1' x2' x3' x4' w' => f_X5_tightest_11 n x1' x2' x3' x4' w') (fun x1' x2' x3' x4' w' => ih x1' x2' x3' x4' w') x1 x2 x3 x4 z2.1 z3.1 1 z3.2
          · refine ev_iload hX dX5_tightest_65 rfl ?_
            refine ev_iload_n hX dX5_tightest_67 rfl ?_
            refine ev_icmp_ne (tgt := 81) hX dX5_tightest_68 (by decide) ?_ ?_
            · refine ev_iconst hX dX5_tightest_81 (v := 0) (by decide +kernel) ?_
              refine ev_mask [true, true, true, true, true, true, true, false] (L' := [some (.inr (.inl 0)), some (.inl x1), some (.inl x2), some (.inl x3), some (.inl x4), some (.inl z2.1), some (.inl z3.1), none]) rfl rfl ?_
              exact e_X5_tightest_82 hX hr (fun x1' x2' x3' x4' w' => f_X5_tightest_11 n x1' x2' x3' x4' w') (fun x1' x2' x3' x4' w' => ih x1' x2' x3' x4' w') x1 x2 x3 x4 z2.1 z3.1 0 z3.2
            · refine ev_iload hX dX5_tightest_71 rfl ?_
              refine ev_iload_n hX dX5_tightest_73 rfl ?_
              refine ev_icmp_le (tgt := 81) hX dX5_tightest_74 (by decide) ?_ ?_
              · refine ev_iconst hX dX5_tightest_81 (v := 0) (by decide +kernel) ?_
                refine ev_mask [true, true, true, true, true, true, true, false] (L' := [some (.inr (.inl 0)), some (.inl x1), some (.inl x2), some (.inl x3), some (.inl x4), some (.inl z2.1), some (.inl z3.1), none]) rfl rfl ?_
                exact e_X5_tightest_82 hX hr (fun x1' x2' x3' x4' w' => f_X5_tightest_11 n x1' x2' x3' x4' w') (fun x1' x2' x3' x4' w' => ih x1' x2' x3' x4' w') x1 x2 x3 x4 z2.1 z3.1 0 z3.2
              · refine ev_iconst hX dX5_tightest_77 (v := 1) (by decide +kernel) ?_
                refine ev_goto (tgt := 82) hX dX5_tightest_78 (by decide) ?_
                refine ev_mask [true, true, true, true, true, true, true, false] (L' := [some (.inr (.inl 0)), some (.inl x1), some (.inl x2), some (.inl x3), some (.inl x4), some (.inl z2.1), some (.inl z3.1), none]) rfl rfl ?_
                exact e_X5_tightest_82 hX hr (fun x1' x2' x3' x4' w' => f_X5_tightest_11 n x1' x2' x3' x4' w') (fun x1' x2' x3' x4' w' => ih x1' x2' x3' x4' w') x1 x2 x3 x4 z2.1 z3.1 1 z3.2
set_option maxHeartbeats 4000000 in
set_option maxRecDepth 100000 in
theorem c_X5_tightest (l : Launch) (D : va_G) (cI cC : ClassId) (td : Nat → Option Nat) (w : mvW) : ∀ z, f_X5_tightest w = some z → mv_Ci l D vwCl cI cC tbX td yX5_tightest wsX5_tightest rm_X5_tightest shM w [.inr (.inl 0)] z := by
  refine mv_starti (own := RX5) rfl (by decide) rfl rfl (L0 := [some (.inr (.inl 0)), none, none, none, none, none, none, none]) rfl (fun p e s m args below meth c A ad0 hX hr => ?_)
  rw [f_X5_tightest]
  refine ev_sipush hX dX5_tightest_0 (v := (-1005)) (by decide +kernel) ?_
  refine ev_istore_n hX dX5_tightest_3 rfl (L' := [some (.inr (.inl 0)), some (.inl (-1005)), none, none, none, none, none, none]) rfl ?_
  refine ev_iconst hX dX5_tightest_4 (v := 0) (by decide +kernel) ?_
  refine ev_istore_n hX dX5_tightest_5 rfl (L' := [some (.inr (.inl 0)), some (.inl (-1005)), some (.inl 0), none, none, none, none, none]) rfl ?_
  refine ev_iconst hX dX5_tightest_6 (v := 0) (by decide +kernel) ?_
  refine ev_istore_n hX dX5_tightest_7 rfl (L' := [some (.inr (.inl 0)), some (.inl (-1005)), some (.inl 0), some (.inl 0), none, none, none, none]) rfl ?_
  refine ev_iconst hX dX5_tightest_8 (v := 0) (by decide +kernel) ?_
  refine ev_istore hX dX5_tightest_9 rfl (L' := [some (.inr (.inl 0)), some (.inl (-1005)), some (.inl 0), some (.inl 0), some (.inl 0), none, none, none]) rfl ?_
  refine ev_mask [true, true, true, true, true, false, false, false] (L' := [some (.inr (.inl 0)), some (.inl (-1005)), some (.inl 0), some (.inl 0), some (.inl 0), none, none, none]) rfl rfl ?_
  exact e_X5_tightest_11 hX hr 4096 (-1005) 0 0 0 w
end
