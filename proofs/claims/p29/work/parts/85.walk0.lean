section
variable {p : Program} {l : Launch} {e : Env} {s : State} {m : MethodId} {args : Array Value} {below : List Frame} {meth : Method} {c : Code} {D : va_G} {cI cC : ClassId} {td : Nat → Option Nat} {A : Nat → Prop} {ad0 : Nat → Nat}
def rm_X2_removeAllMen : Room := { frames := 0, cells := 0, slots := 0, locals := 0 }
set_option maxRecDepth 20000 in
theorem in_X2_removeAllMen_X2 : ∀ w ∈ u_ws RX2 TX2 2, w ∈ wsX2_removeAllMen := by decide +kernel
set_option maxHeartbeats 4000000 in
set_option maxRecDepth 100000 in
theorem e_X2_removeAllMen_P_46 (hX : mv_X p s m args meth c D vwCl cI cC tbX td A cX2_removeAllMen 2 RX2 wsX2_removeAllMen) (hr : meth.sig.returnType = none) : ∀ (n : Nat) (x1 : Int32) (w : mvW), EV p l e (headSpec wsX2_removeAllMen rm_X2_removeAllMen).room s m args below meth c D vwCl cI cC td A (fun a => a = ad0) (mv_Qv below args s D vwCl cI cC shP ad0 A) 0 0 shP [some (.inr (.inl 1)), some (.inl x1)] [] 46 w (f_X2_removeAllMen_46 n x1 w) := by
  intro n
  induction n with
  | zero => intro x1 w; exact ev_none
  | succ n ih =>
    intro x1 w
    rw [f_X2_removeAllMen_46]
    refine ev_iload_n hX dX2_removeAllMen_46 rfl ?_
    refine ev_iconst hX dX2_removeAllMen_47 (v := 2) (by decide +kernel) ?_
    refine ev_icmp_ge (tgt := 67) hX dX2_removeAllMen_48 (by decide) ?_ ?_
    · exact ev_vret hX hr dX2_removeAllMen_67
    · refine ev_aload_n hX dX2_removeAllMen_51 rfl ?_
      refine ev_getr (k := 0) hX (T := TX2) in_X2_removeAllMen_X2 rfl rfl rfl (show Cond.fieldLink RX2 11 "FiveShogi$Position" "state" "[I" ∈ _ by decide +kernel) rfl dX2_removeAllMen_52 ?_
      refine ev_bipush hX dX2_removeAllMen_55 (v := 37) (by decide +kernel) ?_
      refine ev_iload_n hX dX2_removeAllMen_57 rfl ?_
      refine ev_iadd hX dX2_removeAllMen_58 ?_
      refine ev_iconst hX dX2_removeAllMen_59 (v := (-1)) (by decide +kernel) ?_
      refine ev_iast hX rfl dX2_removeAllMen_60 (fun j3 => ?_)
      refine ev_iinc hX dX2_removeAllMen_61 rfl (v := 1) (by decide +kernel) (L' := [some (.inr (.inl 1)), some (.inl (x1 + 1))]) rfl ?_
      refine ev_goto (tgt := 46) hX dX2_removeAllMen_64 (by decide) ?_
      refine ev_mask [true, true] (L' := [some (.inr (.inl 1)), some (.inl (x1 + 1))]) rfl rfl ?_
      exact ih (x1 + 1) (mv_up w 2 j3 (-1))
set_option maxHeartbeats 4000000 in
set_option maxRecDepth 100000 in
theorem e_X2_removeAllMen_P_25 (hX : mv_X p s m args meth c D vwCl cI cC tbX td A cX2_removeAllMen 2 RX2 wsX2_removeAllMen) (hr : meth.sig.returnType = none) : ∀ (n : Nat) (x1 : Int32) (w : mvW), EV p l e (headSpec wsX2_removeAllMen rm_X2_removeAllMen).room s m args below meth c D vwCl cI cC td A (fun a => a = ad0) (mv_Qv below args s D vwCl cI cC shP ad0 A) 0 0 shP [some (.inr (.inl 1)), some (.inl x1)] [] 25 w (f_X2_removeAllMen_25 n x1 w) := by
  intro n
  induction n with
  | zero => intro x1 w; exact ev_none
  | succ n ih =>
    intro x1 w
    rw [f_X2_removeAllMen_25]
    refine ev_iload_n hX dX2_removeAllMen_25 rfl ?_
    refine ev_bipush hX dX2_removeAllMen_26 (v := 37) (by decide +kernel) ?_
    refine ev_icmp_ge (tgt := 44) hX dX2_removeAllMen_28 (by decide) ?_ ?_
    · refine ev_iconst hX dX2_removeAllMen_44 (v := 0) (by decide +kernel) ?_
      refine ev_istore_n hX dX2_removeAllMen_45 rfl (L' := [some (.inr (.inl 1)), some (.inl 0)]) rfl ?_
      refine ev_mask [true, true] (L' := [some (.inr (.inl 1)), some (.inl 0)]) rfl rfl ?_
      exact e_X2_removeAllMen_P_46 hX hr 4096 0 w
    · refine ev_aload_n hX dX2_removeAllMen_31 rfl ?_
      refine ev_getr (k := 0) hX (T := TX2) in_X2_removeAllMen_X2 rfl rfl rfl (show Cond.fieldLink RX2 11 "FiveShogi$Position" "state" "[I" ∈ _ by decide +kernel) rfl dX2_removeAllMen_32 ?_
      refine ev_iload_n hX dX2_removeAllMen_35 rfl ?_
      refine ev_iconst hX dX2_removeAllMen_36 (v := 0) (by decide +kernel) ?_
      refine ev_iast hX rfl dX2_removeAllMen_37 (fun j2 => ?_)
      refine ev_iinc hX dX2_removeAllMen_38 rfl (v := 1) (by decide +kernel) (L' := [some (.inr (.inl 1)), some (.inl (x1 + 1))]) rfl ?_
      refine ev_goto (tgt := 25) hX dX2_removeAllMen_41 (by decide) ?_
      refine ev_mask [true, true] (L' := [some (.inr (.inl 1)), some (.inl (x1 + 1))]) rfl rfl ?_
      exact ih (x1 + 1) (mv_up w 2 j2 0)
set_option maxHeartbeats 4000000 in
set_option maxRecDepth 100000 in
theorem e_X2_removeAllMen_P_2 (hX : mv_X p s m args meth c D vwCl cI cC tbX td A cX2_removeAllMen 2 RX2 wsX2_removeAllMen) (hr : meth.sig.returnType = none) : ∀ (n : Nat) (x1 : Int32) (w : mvW), EV p l e (headSpec wsX2_removeAllMen rm_X2_removeAllMen).room s m args below meth c D vwCl cI cC td A (fun a => a = ad0) (mv_Qv below args s D vwCl cI cC shP ad0 A) 0 0 shP [some (.inr (.inl 1)), some (.inl x1)] [] 2 w (f_X2_removeAllMen_2 n x1 w) := by
  intro n
  induction n with
  | zero => intro x1 w; exact ev_none
  | succ n ih =>
    intro x1 w
    rw [f_X2_removeAllMen_2]
    refine ev_iload_n hX dX2_removeAllMen_2 rfl ?_
    refine ev_bipush hX dX2_removeAllMen_3 (v := 25) (by decide +kernel) ?_
    refine ev_icmp_ge (tgt := 22) hX dX2_removeAllMen_5 (by decide) ?_ ?_
    · refine ev_bipush hX dX2_removeAllMen_22 (v := 25) (by decide +kernel) ?_
      refine ev_istore_n hX dX2_removeAllMen_24 rfl (L' := [some (.inr (.inl 1)), some (.inl 25)]) rfl ?_
      refine ev_mask [true, true] (L' := [some (.inr (.inl 1)), some (.inl 25)]) rfl rfl ?_
      exact e_X2_removeAllMen_P_25 hX hr 4096 25 w
    · refine ev_aload_n hX dX2_removeAllMen_8 rfl ?_
      refine ev_getr (k := 0) hX (T := TX2) in_X2_removeAllMen_X2 rfl rfl rfl (show Cond.fieldLink RX2 11 "FiveShogi$Position" "state" "[I" ∈ _ by decide +kernel) rfl dX2_removeAllMen_9 ?_
      refine ev_iload_n hX dX2_removeAllMen_12 rfl ?_
      refine ev_bipush hX dX2_removeAllMen_13 (v := 99) (by decide +kernel) ?_
      refine ev_iast hX rfl dX2_removeAllMen_15 (fun j1 => ?_)
      refine ev_iinc hX dX2_removeAllMen_16 rfl (v := 1) (by decide +kernel) (L' := [some (.inr (.inl 1)), some (.inl (x1 + 1))]) rfl ?_
      refine ev_goto (tgt := 2) hX dX2_removeAllMen_19 (by decide) ?_
      refine ev_mask [true, true] (L' := [some (.inr (.inl 1)), some (.inl (x1 + 1))]) rfl rfl ?_
      exact ih (x1 + 1) (mv_up w 2 j1 99)
set_option maxHeartbeats 4000000 in
set_option maxRecDepth 100000 in
theorem c_X2_removeAllMen_P (l : Launch) (D : va_G) (cI cC : ClassId) (td : Nat → Option Nat) (w : mvW) : ∀ z, f_X2_removeAllMen w = some z → mv_Cv l D vwCl cI cC tbX td yX2_removeAllMen wsX2_removeAllMen rm_X2_removeAllMen shP w [.inr (.inl 1)] z := by
  refine mv_startv (own := RX2) rfl (by decide) rfl rfl (L0 := [some (.inr (.inl 1)), none]) rfl (fun p e s m args below meth c A ad0 hX hr => ?_)
  rw [f_X2_removeAllMen]
  refine ev_iconst hX dX2_removeAllMen_0 (v := 0) (by decide +kernel) ?_
  refine ev_istore_n hX dX2_removeAllMen_1 rfl (L' := [some (.inr (.inl 1)), some (.inl 0)]) rfl ?_
  refine ev_mask [true, true] (L' := [some (.inr (.inl 1)), some (.inl 0)]) rfl rfl ?_
  exact e_X2_removeAllMen_P_2 hX hr 4096 0 w
def rm_X4_isSquare : Room := { frames := 0, cells := 0, slots := 0, locals := 0 }
set_option maxHeartbeats 4000000 in
set_option maxRecDepth 100000 in
theorem c_X4_isSquare_P (l : Launch) (D : va_G) (cI cC : ClassId) (td : Nat → Option Nat) (a0 : Int32) (w : mvW) : ∀ z, f_X4_isSquare a0 w = some z → mv_Ci l D vwCl cI cC tbX td yX4_isSquare wsX4_isSquare rm_X4_isSquare shP w [.inl a0] z := by
  refine mv_starti (own := RX4) rfl (by decide) rfl rfl (L0 := [some (.inl a0)]) rfl (fun p e s m args below meth c A ad0 hX hr => ?_)
  rw [f_X4_isSquare]
  refine ev_iload_n hX dX4_isSquare_0 rfl ?_
  refine ev_if_lt (tgt := 14) hX dX4_isSquare_1 (by decide) ?_ ?_
  · refine ev_iconst hX dX4_isSquare_14 (v := 0) (by decide +kernel) ?_
    exact ev_iretz0 hX hr dX4_isSquare_15
  · refine ev_iload_n hX dX4_isSquare_4 rfl ?_
    refine ev_bipush hX dX4_isSquare_5 (v := 25) (by decide +kernel) ?_
    refine ev_icmp_ge (tgt := 14) hX dX4_isSquare_7 (by decide) ?_ ?_
    · refine ev_iconst hX dX4_isSquare_14 (v := 0) (by decide +kernel) ?_
      exact ev_iretz0 hX hr dX4_isSquare_15
    · refine ev_iconst hX dX4_isSquare_10 (v := 1) (by decide +kernel) ?_
      refine ev_goto (tgt := 15) hX dX4_isSquare_11 (by decide) ?_
      exact ev_iretz1 hX hr dX4_isSquare_15
def rm_X4_squareBeside : Room := { frames := 1, cells := 0, slots := 0, locals := 20 }
set_option maxHeartbeats 4000000 in
set_option maxRecDepth 100000 in
theorem e_X4_squareBeside_P_72 (hX : mv_X p s m args meth c D vwCl cI cC tbX td A cX4_squareBeside 5 RX4 wsX4_squareBeside) (hr : meth.sig.returnType = (some .int)) (x2 : Int32) (x3 : Int32) (s0 : Int32) (w : mvW) : EV p l e (headSpec wsX4_squareBeside rm_X4_squareBeside).room s m args below meth c D vwCl cI cC td A (fun a => a = ad0) (mv_Qi below args s D vwCl cI cC shP ad0 A) 0 0 shP [none, none, some (.inl x2), some (.inl x3), none] [.inl s0] 72 w (f_X4_squareBeside_72 x2 x3 s0 w) := by
  rw [f_X4_squareBeside_72]
  refine ev_istore hX dX4_squareBeside_72 rfl (L' := [none, none, some (.inl x2), some (.inl x3), some (.inl s0)]) rfl ?_
  refine ev_iload hX dX4_squareBeside_74 rfl ?_
  refine ev_if_eq (tgt := 87) hX dX4_squareBeside_76 (by decide) ?_ ?_
  · refine ev_iconst hX dX4_squareBeside_87 (v := (-1)) (by decide +kernel) ?_
    exact ev_ireti hX hr dX4_squareBeside_88
  · refine ev_iload_n hX dX4_squareBeside_79 rfl ?_
    refine ev_iconst hX dX4_squareBeside_80 (v := 5) (by decide +kernel) ?_
    refine ev_imul hX dX4_squareBeside_81 ?_
    refine ev_iload_n hX dX4_squareBeside_82 rfl ?_
    refine ev_iadd hX dX4_squareBeside_83 ?_
    refine ev_goto (tgt := 88) hX dX4_squareBeside_84 (by decide) ?_
    exact ev_ireti hX hr dX4_squareBeside_88
set_option maxHeartbeats 4000000 in
set_option maxRecDepth 100000 in
theorem c_X4_squareBeside_P (l : Launch) (D : va_G) (cI cC : ClassId) (td : Nat → Option Nat) (a0 : Int32) (a1 : Int32) (w : mvW) : ∀ z, f_X4_squareBeside a0 a1 w = some z → mv_Ci l D vwCl cI cC tbX td yX4_squareBeside wsX4_squareBeside rm_X4_squareBeside shP w [.inl a0, .inl a1] z := by
  refine mv_starti (own := RX4) rfl (by decide) rfl rfl (L0 := [some (.inl a0), some (.inl a1), none, none, none]) rfl (fun p e s m args below meth c A ad0 hX hr => ?_)
  rw [f_X4_squareBeside]
  refine ev_iload_n hX dX4_squareBeside_0 rfl ?_
  refine ev_callSi hX (As := [.inl a0]) (rm := rm_X4_isSquare) (c_X4_isSquare_P l D cI cC td a0 w) (cwS 1 hX.ts gX4_squareBeside_X4_isSquare rfl rfl rfl (by decide +kernel) ⟨Nat.le_of_ble_eq_true rfl, Nat.le_of_ble_eq_true rfl⟩) rfl rfl rfl ⟨Nat.le_of_ble_eq_true rfl, Nat.le_of_ble_eq_true rfl⟩ dX4_squareBeside_1 rfl (fun z1 hz1 => ?_)
  refine ev_if_eq (tgt := 27) hX dX4_squareBeside_4 (by decide) ?_ ?_
  · refine ev_iconst hX dX4_squareBeside_27 (v := (-1)) (by decide +kernel) ?_
    exact ev_ireti hX hr dX4_squareBeside_28
  · refine ev_iload_n hX dX4_squareBeside_7 rfl ?_
    refine ev_if_lt (tgt := 27) hX dX4_squareBeside_8 (by decide) ?_ ?_
    · refine ev_iconst hX dX4_squareBeside_27 (v := (-1)) (by decide +kernel) ?_
      exact ev_ireti hX hr dX4_squareBeside_28
    · refine ev_iload_n hX dX4_squareBeside_11 rfl ?_
      refine ev_gets (j := 0) hX rfl (show Cond.fieldLink RX4 215 "FiveShogi" "ROWS_ON" "[I" ∈ _ by decide +kernel) dX4_squareBeside_12 ?_
      refine ev_tlen hX rfl (v := 8) (by decide +kernel) dX4_squareBeside_15 ?_
      refine ev_icmp_ge (tgt := 27) hX dX4_squareBeside_16 (by decide) ?_ ?_
      · refine ev_iconst hX dX4_squareBeside_27 (v := (-1)) (by decide +kernel) ?_
        exact ev_ireti hX hr dX4_squareBeside_28
      · refine ev_iload_n hX dX4_squareBeside_19 rfl ?_
        refine ev_gets (j := 1) hX rfl (show Cond.fieldLink RX4 218 "FiveShogi" "COLUMNS_ON" "[I" ∈ _ by decide +kernel) dX4_squareBeside_20 ?_
        refine ev_tlen hX rfl (v := 8) (by decide +kernel) dX4_squareBeside_23 ?_
        refine ev_icmp_lt (tgt := 29) hX dX4_squareBeside_24 (by decide) ?_ ?_
        · refine ev_iload_n hX dX4_squareBeside_29 rfl ?_
          refine ev_iconst hX dX4_squareBeside_30 (v := 5) (by decide +kernel) ?_
          refine ev_idiv hX dX4_squareBeside_31 (by decide) ?_
          refine ev_gets (j := 0) hX rfl (show Cond.fieldLink RX4 215 "FiveShogi" "ROWS_ON" "[I" ∈ _ by decide +kernel) dX4_squareBeside_32 ?_
          refine ev_iload_n hX dX4_squareBeside_35 rfl ?_
          refine ev_tald (xs := tb_ROWS_ON) hX rfl dX4_squareBeside_36 (fun j2 => ?_)
          refine ev_iadd hX dX4_squareBeside_37 ?_
          refine ev_istore_n hX dX4_squareBeside_38 rfl (L' := [some (.inl a0), some (.inl a1), some (.inl ((a0 / 5) + (tb_ROWS_ON.getD j2 0))), none, none]) rfl ?_
          refine ev_iload_n hX dX4_squareBeside_39 rfl ?_
          refine ev_iconst hX dX4_squareBeside_40 (v := 5) (by decide +kernel) ?_
          refine ev_irem hX dX4_squareBeside_41 (by decide) ?_
          refine ev_gets (j := 1) hX rfl (show Cond.fieldLink RX4 218 "FiveShogi" "COLUMNS_ON" "[I" ∈ _ by decide +kernel) dX4_squareBeside_42 ?_
          refine ev_iload_n hX dX4_squareBeside_45 rfl ?_
          refine ev_tald (xs := tb_COLUMNS_ON) hX rfl dX4_squareBeside_46 (fun j3 => ?_)
          refine ev_iadd hX dX4_squareBeside_47 ?_
          refine ev_istore_n hX dX4_squareBeside_48 rfl (L' := [some (.inl a0), some (.inl a1), some (.inl ((a0 / 5) + (tb_ROWS_ON.getD j2 0))), some (.inl ((a0 - a0 / 5 * 5) + (tb_COLUMNS_ON.getD j3 0))), none]) rfl ?_
          refine ev_iload_n hX dX4_squareBeside_49 rfl ?_
          refine ev_if_lt (tgt := 71) hX dX4_squareBeside_50 (by decide) ?_ ?_
          · refine ev_iconst hX dX4_squareBeside_71 (v := 0) (by decide +kernel) ?_
            refine ev_mask [false, false, true, true, false] (L' := [none, none, some (.inl ((a0 / 5) + (tb_ROWS_ON.getD j2 0))), some (.inl ((a0 - a0 / 5 * 5) + (tb_COLUMNS_ON.getD j3 0))), none]) rfl rfl ?_
            exact e_X4_squareBeside_P_72 hX hr ((a0 / 5) + (tb_ROWS_ON.getD j2 0)) ((a0 - a0 / 5 * 5) + (tb_COLUMNS_ON.getD j3 0)) 0 z1.2
          · refine ev_iload_n hX dX4_squareBeside_53 rfl ?_
            refine ev_iconst hX dX4_squareBeside_54 (v := 5) (by decide +kernel) ?_
            refine ev_icmp_ge (tgt := 71) hX dX4_squareBeside_55 (by decide) ?_ ?_
            · refine ev_iconst hX dX4_squareBeside_71 (v := 0) (by decide +kernel) ?_
              refine ev_mask [false, false, true, true, false] (L' := [none, none, some (.inl ((a0 / 5) + (tb_ROWS_ON.getD j2 0))), some (.inl ((a0 - a0 / 5 * 5) + (tb_COLUMNS_ON.getD j3 0))), none]) rfl rfl ?_
              exact e_X4_squareBeside_P_72 hX hr ((a0 / 5) + (tb_ROWS_ON.getD j2 0)) ((a0 - a0 / 5 * 5) + (tb_COLUMNS_ON.getD j3 0)) 0 z1.2
            · refine ev_iload_n hX dX4_squareBeside_58 rfl ?_
              refine ev_if_lt (tgt := 71) hX dX4_squareBeside_59 (by decide) ?_ ?_
              · refine ev_iconst hX dX4_squareBeside_71 (v := 0) (by decide +kernel) ?_
                refine ev_mask [false, false, true, true, false] (L' := [none, none, some (.inl ((a0 / 5) + (tb_ROWS_ON.getD j2 0))), some (.inl ((a0 - a0 / 5 * 5) + (tb_COLUMNS_ON.getD j3 0))), none]) rfl rfl ?_
                exact e_X4_squareBeside_P_72 hX hr ((a0 / 5) + (tb_ROWS_ON.getD j2 0)) ((a0 - a0 / 5 * 5) + (tb_COLUMNS_ON.getD j3 0)) 0 z1.2
              · refine ev_iload_n hX dX4_squareBeside_62 rfl ?_
                refine ev_iconst hX dX4_squareBeside_63 (v := 5) (by decide +kernel) ?_
                refine ev_icmp_ge (tgt := 71) hX dX4_squareBeside_64 (by decide) ?_ ?_
                · refine ev_iconst hX dX4_squareBeside_71 (v := 0) (by decide +kernel) ?_
                  refine ev_mask [false, false, true, true, false] (L' := [none, none, some (.inl ((a0 / 5) + (tb_ROWS_ON.getD j2 0))), some (.inl ((a0 - a0 / 5 * 5) + (tb_COLUMNS_ON.getD j3 0))), none]) rfl rfl ?_
                  exact e_X4_squareBeside_P_72 hX hr ((a0 / 5) + (tb_ROWS_ON.getD j2 0)) ((a0 - a0 / 5 * 5) + (tb_COLUMNS_ON.getD j3 0)) 0 z1.2
                · refine ev_iconst hX dX4_squareBeside_67 (v := 1) (by decide +kernel) ?_
                  refine ev_goto (tgt := 72) hX dX4_squareBeside_68 (by decide) ?_
                  refine ev_mask [false, false, true, true, false] (L' := [none, none, some (.inl ((a0 / 5) + (tb_ROWS_ON.getD j2 0))), some (.inl ((a0 - a0 / 5 * 5) + (tb_COLUMNS_ON.getD j3 0))), none]) rfl rfl ?_
                  exact e_X4_squareBeside_P_72 hX hr ((a0 / 5) + (tb_ROWS_ON.getD j2 0)) ((a0 - a0 / 5 * 5) + (tb_COLUMNS_ON.getD j3 0)) 1 z1.2
        · refine ev_iconst hX dX4_squareBeside_27 (v := (-1)) (by decide +kernel) ?_
          exact ev_ireti hX hr dX4_squareBeside_28
def rm_X4_isMan : Room := { frames := 0, cells := 0, slots := 0, locals := 0 }
set_option maxHeartbeats 4000000 in
set_option maxRecDepth 100000 in
theorem c_X4_isMan_P (l : Launch) (D : va_G) (cI cC : ClassId) (td : Nat → Option Nat) (a0 : Int32) (w : mvW) : ∀ z, f_X4_isMan a0 w = some z → mv_Ci l D vwCl cI cC tbX td yX4_isMan wsX4_isMan rm_X4_isMan shP w [.inl a0] z := by
  refine mv_starti (own := RX4) rfl (by decide) rfl rfl (L0 := [some (.inl a0)]) rfl (fun p e s m args below meth c A ad0 hX hr => ?_)
  rw [f_X4_isMan]
  refine ev_iload_n hX dX4_isMan_0 rfl ?_
  refine ev_if_lt (tgt := 14) hX dX4_isMan_1 (by decide) ?_ ?_
  · refine ev_iconst hX dX4_isMan_14 (v := 0) (by decide +kernel) ?_
    exact ev_iretz0 hX hr dX4_isMan_15
  · refine ev_iload_n hX dX4_isMan_4 rfl ?_
    refine ev_bipush hX dX4_isMan_5 (v := 20) (by decide +kernel) ?_
    refine ev_icmp_ge (tgt := 14) hX dX4_isMan_7 (by decide) ?_ ?_
    · refine ev_iconst hX dX4_isMan_14 (v := 0) (by decide +kernel) ?_
      exact ev_iretz0 hX hr dX4_isMan_15
    · refine ev_iconst hX dX4_isMan_10 (v := 1) (by decide +kernel) ?_
      refine ev_goto (tgt := 15) hX dX4_isMan_11 (by decide) ?_
      exact ev_iretz1 hX hr dX4_isMan_15
def rm_X4_kindOf : Room := { frames := 0, cells := 0, slots := 0, locals := 0 }
set_option maxHeartbeats 4000000 in
set_option maxRecDepth 100000 in
theorem c_X4_kindOf_P (l : Launch) (D : va_G) (cI cC : ClassId) (td : Nat → Option Nat) (a0 : Int32) (w : mvW) : ∀ z, f_X4_kindOf a0 w = some z → mv_Ci l D vwCl cI cC tbX td yX4_kindOf wsX4_kindOf rm_X4_kindOf shP w [.inl a0] z := by
  refine mv_starti (own := RX4) rfl (by decide) rfl rfl (L0 := [some (.inl a0)]) rfl (fun p e s m args below meth c A ad0 hX hr => ?_)
  rw [f_X4_kindOf]
  refine ev_iload_n hX dX4_kindOf_0 rfl ?_
  refine ev_bipush hX dX4_kindOf_1 (v := 10) (by decide +kernel) ?_
  refine ev_irem hX dX4_kindOf_3 (by decide) ?_
  exact ev_ireti hX hr dX4_kindOf_4
def rm_X4_sideOf : Room := { frames := 0, cells := 0, slots := 0, locals := 0 }
set_option maxHeartbeats 4000000 in
set_option maxRecDepth 100000 in
theorem c_X4_sideOf_P (l : Launch) (D : va_G) (cI cC : ClassId) (td : Nat → Option Nat) (a0 : Int32) (w : mvW) : ∀ z, f_X4_sideOf a0 w = some z → mv_Ci l D vwCl cI cC tbX td yX4_sideOf wsX4_sideOf rm_X4_sideOf shP w [.inl a0] z := by
  refine mv_starti (own := RX4) rfl (by decide) rfl rfl (L0 := [some (.inl a0)]) rfl (fun p e s m args below meth c A ad0 hX hr => ?_)
  rw [f_X4_sideOf]
  refine ev_iload_n hX dX4_sideOf_0 rfl ?_
  refine ev_bipush hX dX4_sideOf_1 (v := 10) (by decide +kernel) ?_
  refine ev_idiv hX dX4_sideOf_3 (by decide) ?_
  exact ev_ireti hX hr dX4_sideOf_4
def rm_X2_place : Room := { frames := 1, cells := 0, slots := 0, locals := 20 }
set_option maxRecDepth 20000 in
theorem in_X2_place_X2 : ∀ w ∈ u_ws RX2 TX2 2, w ∈ wsX2_place := by decide +kernel
set_option maxHeartbeats 4000000 in
set_option maxRecDepth 100000 in
theorem e_X2_place_P_42 (hX : mv_X p s m args meth c D vwCl cI cC tbX td A cX2_place 4 RX2 wsX2_place) (hr : meth.sig.returnType = none) (x1 : Int32) (x2 : Int32) (w : mvW) : EV p l e (headSpec wsX2_place rm_X2_place).room s m args below meth c D vwCl cI cC td A (fun a => a = ad0) (mv_Qv below args s D vwCl cI cC shP ad0 A) 0 0 shP [some (.inr (.inl 1)), some (.inl x1), some (.inl x2), none] [] 42 w (f_X2_place_42 x1 x2 w) := by
  rw [f_X2_place_42]
  refine ev_aload_n hX dX2_place_42 rfl ?_
  refine ev_getr (k := 0) hX (T := TX2) in_X2_place_X2 rfl rfl rfl (show Cond.fieldLink RX2 11 "FiveShogi$Position" "state" "[I" ∈ _ by decide +kernel) rfl dX2_place_43 ?_
  refine ev_iload_n hX dX2_place_46 rfl ?_
  refine ev_iload_n hX dX2_place_47 rfl ?_
  refine ev_iast hX rfl dX2_place_48 (fun j7 => ?_)
  refine ev_iload_n hX dX2_place_49 rfl ?_
  refine ev_callNi hX (As := [.inl x2]) (rm := rm_X4_isMan) (c_X4_isMan_P l D cI cC td x2 (mv_up w 2 j7 x2)) ⟨va_cnB (host := "FiveShogi") 1 hX.ts gX2_place_X4_isMan_n45 rfl rfl rfl (hX.sta.2.1 (_, 45, _, _) (List.mem_of_getElem? (i := 2) rfl)) (hX.ts _ (show Cond.initialized RX4 ∈ _ by decide +kernel)) (by decide +kernel) ⟨Nat.le_of_ble_eq_true rfl, Nat.le_of_ble_eq_true rfl⟩, hX.ts _ (show Cond.static yX4_isMan ∈ _ by decide +kernel), trivial⟩ rfl rfl rfl ⟨Nat.le_of_ble_eq_true rfl, Nat.le_of_ble_eq_true rfl⟩ dX2_place_50 rfl (fun z8 hz8 => ?_)
  refine ev_if_eq (tgt := 76) hX dX2_place_53 (by decide) ?_ ?_
  · exact ev_vret hX hr dX2_place_76
  · refine ev_iload_n hX dX2_place_56 rfl ?_
    refine ev_callNi hX (As := [.inl x2]) (rm := rm_X4_kindOf) (c_X4_kindOf_P l D cI cC td x2 z8.2) ⟨va_cnB (host := "FiveShogi") 1 hX.ts gX2_place_X4_kindOf_n48 rfl rfl rfl (hX.sta.2.1 (_, 48, _, _) (List.mem_of_getElem? (i := 3) rfl)) (hX.ts _ (show Cond.initialized RX4 ∈ _ by decide +kernel)) (by decide +kernel) ⟨Nat.le_of_ble_eq_true rfl, Nat.le_of_ble_eq_true rfl⟩, hX.ts _ (show Cond.static yX4_kindOf ∈ _ by decide +kernel), trivial⟩ rfl rfl rfl ⟨Nat.le_of_ble_eq_true rfl, Nat.le_of_ble_eq_true rfl⟩ dX2_place_57 rfl (fun z9 hz9 => ?_)
    refine ev_if_ne (tgt := 76) hX dX2_place_60 (by decide) ?_ ?_
    · exact ev_vret hX hr dX2_place_76
    · refine ev_aload_n hX dX2_place_63 rfl ?_
      refine ev_getr (k := 0) hX (T := TX2) in_X2_place_X2 rfl rfl rfl (show Cond.fieldLink RX2 11 "FiveShogi$Position" "state" "[I" ∈ _ by decide +kernel) rfl dX2_place_64 ?_
      refine ev_bipush hX dX2_place_67 (v := 37) (by decide +kernel) ?_
      refine ev_iload_n hX dX2_place_69 rfl ?_
      refine ev_callNi hX (As := [.inl x2]) (rm := rm_X4_sideOf) (c_X4_sideOf_P l D cI cC td x2 z9.2) ⟨va_cnB (host := "FiveShogi") 1 hX.ts gX2_place_X4_sideOf_n52 rfl rfl rfl (hX.sta.2.1 (_, 52, _, _) (List.mem_of_getElem? (i := 4) rfl)) (hX.ts _ (show Cond.initialized RX4 ∈ _ by decide +kernel)) (by decide +kernel) ⟨Nat.le_of_ble_eq_true rfl, Nat.le_of_ble_eq_true rfl⟩, hX.ts _ (show Cond.static yX4_sideOf ∈ _ by decide +kernel), trivial⟩ rfl rfl rfl ⟨Nat.le_of_ble_eq_true rfl, Nat.le_of_ble_eq_true rfl⟩ dX2_place_70 rfl (fun z10 hz10 => ?_)
      refine ev_iadd hX dX2_place_73 ?_
      refine ev_iload_n hX dX2_place_74 rfl ?_
      refine ev_iast hX rfl dX2_place_75 (fun j11 => ?_)
      exact ev_vret hX hr dX2_place_76
set_option maxHeartbeats 4000000 in
set_option maxRecDepth 100000 in
theorem c_X2_place_P (l : Launch) (D : va_G) (cI cC : ClassId) (td : Nat → Option Nat) (a1 : Int32) (a2 : Int32) (w : mvW) : ∀ z, f_X2_place a1 a2 w = some z → mv_Cv l D vwCl cI cC tbX td yX2_place wsX2_place rm_X2_place shP w [.inr (.inl 1), .inl a1, .inl a2] z := by
  refine mv_startv (own := RX2) rfl (by decide) rfl rfl (L0 := [some (.inr (.inl 1)), some (.inl a1), some (.inl a2), none]) rfl (fun p e s m args below meth c A ad0 hX hr => ?_)
  rw [f_X2_place]
  refine ev_iload_n hX dX2_place_0 rfl ?_
  refine ev_callNi hX (As := [.inl a1]) (rm := rm_X4_isSquare) (c_X4_isSquare_P l D cI cC td a1 w) ⟨va_cnB (host := "FiveShogi") 1 hX.ts gX2_place_X4_isSquare_n42 rfl rfl rfl (hX.sta.2.1 (_, 42, _, _) (List.mem_of_getElem? (i := 1) rfl)) (hX.ts _ (show Cond.initialized RX4 ∈ _ by decide +kernel)) (by decide +kernel) ⟨Nat.le_of_ble_eq_true rfl, Nat.le_of_ble_eq_true rfl⟩, hX.ts _ (show Cond.static yX4_isSquare ∈ _ by decide +kernel), trivial⟩ rfl rfl rfl ⟨Nat.le_of_ble_eq_true rfl, Nat.le_of_ble_eq_true rfl⟩ dX2_place_1 rfl (fun z1 hz1 => ?_)
  refine ev_if_ne (tgt := 8) hX dX2_place_4 (by decide) ?_ ?_
  · refine ev_aload_n hX dX2_place_8 rfl ?_
    refine ev_getr (k := 0) hX (T := TX2) in_X2_place_X2 rfl rfl rfl (show Cond.fieldLink RX2 11 "FiveShogi$Position" "state" "[I" ∈ _ by decide +kernel) rfl dX2_place_9 ?_
    refine ev_iload_n hX dX2_place_12 rfl ?_
    refine ev_iald hX rfl dX2_place_13 (fun j2 => ?_)
    refine ev_istore_n hX dX2_place_14 rfl (L' := [some (.inr (.inl 1)), some (.inl a1), some (.inl a2), some (.inl (z1.2 2 j2))]) rfl ?_
    refine ev_iload_n hX dX2_place_15 rfl ?_
    refine ev_callNi hX (As := [.inl (z1.2 2 j2)]) (rm := rm_X4_isMan) (c_X4_isMan_P l D cI cC td (z1.2 2 j2) z1.2) ⟨va_cnB (host := "FiveShogi") 1 hX.ts gX2_place_X4_isMan_n45 rfl rfl rfl (hX.sta.2.1 (_, 45, _, _) (List.mem_of_getElem? (i := 2) rfl)) (hX.ts _ (show Cond.initialized RX4 ∈ _ by decide +kernel)) (by decide +kernel) ⟨Nat.le_of_ble_eq_true rfl, Nat.le_of_ble_eq_true rfl⟩, hX.ts _ (show Cond.static yX4_isMan ∈ _ by decide +kernel), trivial⟩ rfl rfl rfl ⟨Nat.le_of_ble_eq_true rfl, Nat.le_of_ble_eq_true rfl⟩ dX2_place_16 rfl (fun z3 hz3 => ?_)
    refine ev_if_eq (tgt := 42) hX dX2_place_19 (by decide) ?_ ?_
    · refine ev_mask [true, true, true, false] (L' := [some (.inr (.inl 1)), some (.inl a1), some (.inl a2), none]) rfl rfl ?_
      exact e_X2_place_P_42 hX hr a1 a2 z3.2
    · refine ev_iload_n hX dX2_place_22 rfl ?_
      refine ev_callNi hX (As := [.inl (z1.2 2 j2)]) (rm := rm_X4_kindOf) (c_X4_kindOf_P l D cI cC td (z1.2 2 j2) z3.2) ⟨va_cnB (host := "FiveShogi") 1 hX.ts gX2_place_X4_kindOf_n48 rfl rfl rfl (hX.sta.2.1 (_, 48, _, _) (List.mem_of_getElem? (i := 3) rfl)) (hX.ts _ (show Cond.initialized RX4 ∈ _ by decide +kernel)) (by decide +kernel) ⟨Nat.le_of_ble_eq_true rfl, Nat.le_of_ble_eq_true rfl⟩, hX.ts _ (show Cond.static yX4_kindOf ∈ _ by decide +kernel), trivial⟩ rfl rfl rfl ⟨Nat.le_of_ble_eq_true rfl, Nat.le_of_ble_eq_true rfl⟩ dX2_place_23 rfl (fun z4 hz4 => ?_)
      refine ev_if_ne (tgt := 42) hX dX2_place_26 (by decide) ?_ ?_
      · refine ev_mask [true, true, true, false] (L' := [some (.inr (.inl 1)), some (.inl a1), some (.inl a2), none]) rfl rfl ?_
        exact e_X2_place_P_42 hX hr a1 a2 z4.2
      · refine ev_aload_n hX dX2_place_29 rfl ?_
        refine ev_getr (k := 0) hX (T := TX2) in_X2_place_X2 rfl rfl rfl (show Cond.fieldLink RX2 11 "FiveShogi$Position" "state" "[I" ∈ _ by decide +kernel) rfl dX2_place_30 ?_
        refine ev_bipush hX dX2_place_33 (v := 37) (by decide +kernel) ?_
        refine ev_iload_n hX dX2_place_35 rfl ?_
        refine ev_callNi hX (As := [.inl (z1.2 2 j2)]) (rm := rm_X4_sideOf) (c_X4_sideOf_P l D cI cC td (z1.2 2 j2) z4.2) ⟨va_cnB (host := "FiveShogi") 1 hX.ts gX2_place_X4_sideOf_n52 rfl rfl rfl (hX.sta.2.1 (_, 52, _, _) (List.mem_of_getElem? (i := 4) rfl)) (hX.ts _ (show Cond.initialized RX4 ∈ _ by decide +kernel)) (by decide +kernel) ⟨Nat.le_of_ble_eq_true rfl, Nat.le_of_ble_eq_true rfl⟩, hX.ts _ (show Cond.static yX4_sideOf ∈ _ by decide +kernel), trivial⟩ rfl rfl rfl ⟨Nat.le_of_ble_eq_true rfl, Nat.le_of_ble_eq_true rfl⟩ dX2_place_36 rfl (fun z5 hz5 => ?_)
        refine ev_iadd hX dX2_place_39 ?_
        refine ev_iconst hX dX2_place_40 (v := (-1)) (by decide +kernel) ?_
        refine ev_iast hX rfl dX2_place_41 (fun j6 => ?_)
        refine ev_mask [true, true, true, false] (L' := [some (.inr (.inl 1)), some (.inl a1), some (.inl a2), none]) rfl rfl ?_
        exact e_X2_place_P_42 hX hr a1 a2 (mv_up z5.2 2 j6 (-1))
  · exact ev_vret hX hr dX2_place_7
def rm_X2_init : Room := { frames := 2, cells := 2, slots := 244, locals := 44 }
set_option maxRecDepth 20000 in
theorem in_X2_init_X2 : ∀ w ∈ u_ws RX2 TX2 2, w ∈ wsX2_init := by decide +kernel
set_option maxHeartbeats 4000000 in
set_option maxRecDepth 100000 in
theorem e_X2_init_61 (hX : mv_X p s m args meth c D vwCl cI cC tbX td A cX2_init 2 RX2 wsX2_init) (hr : meth.sig.returnType = none) (hin : meth.name = "<init>") : ∀ (n : Nat) (x1 : Int32) (w : mvW), EV p l e (headSpec wsX2_init rm_X2_init).room s m args below meth c D vwCl cI cC td A (fun a => ∀ k, k < 2 → a k = ad0 k) (mv_Qg below args s D vwCl cI cC 2 [.inr (4, [some none, some none, some none, some none, some none, some none, none]), .inr (2, [some (some 2), some (some 3)]), .inl (false, 44), .inl (false, 200)] ad0 A 2 244) 2 244 [.inr (4, [some none, some none, some none, some none, some none, some none, none]), .inr (2, [some (some 2), some (some 3)]), .inl (false, 44), .inl (false, 200)] [some (.inr (.inl 1)), some (.inl x1)] [] 61 w (f_X2_init_61 n x1 w) := by
  intro n
  induction n with
  | zero => intro x1 w; exact ev_none
  | succ n ih =>
    intro x1 w
    rw [f_X2_init_61]
    refine ev_iload_n hX dX2_init_61 rfl ?_
    refine ev_getsN (j := 5) (host := "FiveShogi") hX rfl (List.mem_of_getElem? (i := 0) rfl) dX2_init_62 ?_
    refine ev_tlen hX rfl (v := 25) (by decide +kernel) dX2_init_65 ?_
    refine ev_icmp_ge (tgt := 85) hX dX2_init_66 (by decide) ?_ ?_
    · exact ev_gret hX hr rfl rfl dX2_init_85
    · refine ev_aload_n hX dX2_init_69 rfl ?_
      refine ev_iload_n hX dX2_init_70 rfl ?_
      refine ev_getsN (j := 5) (host := "FiveShogi") hX rfl (List.mem_of_getElem? (i := 0) rfl) dX2_init_71 ?_
      refine ev_iload_n hX dX2_init_74 rfl ?_
      refine ev_tald (xs := tb_FIRST_MEN) hX rfl dX2_init_75 (fun j4 => ?_)
      refine ev_callVv hX (k0 := 1) (As := [.inl x1, .inl (tb_FIRST_MEN.getD j4 0)]) (rm := rm_X2_place) (c_X2_place_P l D cI cC td x1 (tb_FIRST_MEN.getD j4 0) w) (cwV 2 hX.ts gX2_init_X2_place rfl rfl rfl (by decide +kernel) ⟨Nat.le_of_ble_eq_true rfl, Nat.le_of_ble_eq_true rfl⟩) rfl rfl rfl rfl rfl rfl ⟨Nat.le_of_ble_eq_true rfl, Nat.le_of_ble_eq_true rfl⟩ dX2_init_76 rfl (fun z5 hz5 => ?_)
      refine ev_iinc hX dX2_init_79 rfl (v := 1) (by decide +kernel) (L' := [some (.inr (.inl 1)), some (.inl (x1 + 1))]) rfl ?_
      refine ev_goto (tgt := 61) hX dX2_init_82 (by decide) ?_
      refine ev_mask [true, true] (L' := [some (.inr (.inl 1)), some (.inl (x1 + 1))]) rfl rfl ?_
      exact ih (x1 + 1) z5
set_option maxHeartbeats 4000000 in
set_option maxRecDepth 100000 in
theorem e_X2_init_23 (hX : mv_X p s m args meth c D vwCl cI cC tbX td A cX2_init 2 RX2 wsX2_init) (hr : meth.sig.returnType = none) (hin : meth.name = "<init>") : ∀ (n : Nat) (x1 : Int32) (w : mvW), EV p l e (headSpec wsX2_init rm_X2_init).room s m args below meth c D vwCl cI cC td A (fun a => ∀ k, k < 2 → a k = ad0 k) (mv_Qg below args s D vwCl cI cC 2 [.inr (4, [some none, some none, some none, some none, some none, some none, none]), .inr (2, [some (some 2), some (some 3)]), .inl (false, 44), .inl (false, 200)] ad0 A 2 244) 2 244 [.inr (4, [some none, some none, some none, some none, some none, some none, none]), .inr (2, [some (some 2), some (some 3)]), .inl (false, 44), .inl (false, 200)] [some (.inr (.inl 1)), some (.inl x1)] [] 23 w (f_X2_init_23 n x1 w) := by
  intro n
  induction n with
  | zero => intro x1 w; exact ev_none
  | succ n ih =>
    intro x1 w
    rw [f_X2_init_23]
    refine ev_iload_n hX dX2_init_23 rfl ?_
    refine ev_aload_n hX dX2_init_24 rfl ?_
    refine ev_getr (k := 1) hX (T := TX2) in_X2_init_X2 rfl rfl rfl (show Cond.fieldLink RX2 15 "FiveShogi$Position" "beside" "[I" ∈ _ by decide +kernel) rfl dX2_init_25 ?_
    refine ev_alen hX rfl (v := 200) (by decide +kernel) dX2_init_28 ?_
    refine ev_icmp_ge (tgt := 55) hX dX2_init_29 (by decide) ?_ ?_
    · refine ev_aload_n hX dX2_init_55 rfl ?_
      refine ev_callVv hX (k0 := 1) (As := []) (rm := rm_X2_removeAllMen) (c_X2_removeAllMen_P l D cI cC td w) (cwV 0 hX.ts gX2_init_X2_removeAllMen rfl rfl rfl (by decide +kernel) ⟨Nat.le_of_ble_eq_true rfl, Nat.le_of_ble_eq_true rfl⟩) rfl rfl rfl rfl rfl rfl ⟨Nat.le_of_ble_eq_true rfl, Nat.le_of_ble_eq_true rfl⟩ dX2_init_56 rfl (fun z1 hz1 => ?_)
      refine ev_iconst hX dX2_init_59 (v := 0) (by decide +kernel) ?_
      refine ev_istore_n hX dX2_init_60 rfl (L' := [some (.inr (.inl 1)), some (.inl 0)]) rfl ?_
      refine ev_mask [true, true] (L' := [some (.inr (.inl 1)), some (.inl 0)]) rfl rfl ?_
      exact e_X2_init_61 hX hr hin 4096 0 z1
    · refine ev_aload_n hX dX2_init_32 rfl ?_
      refine ev_getr (k := 1) hX (T := TX2) in_X2_init_X2 rfl rfl rfl (show Cond.fieldLink RX2 15 "FiveShogi$Position" "beside" "[I" ∈ _ by decide +kernel) rfl dX2_init_33 ?_
      refine ev_iload_n hX dX2_init_36 rfl ?_
      refine ev_iload_n hX dX2_init_37 rfl ?_
      refine ev_bipush hX dX2_init_38 (v := 8) (by decide +kernel) ?_
      refine ev_idiv hX dX2_init_40 (by decide) ?_
      refine ev_iload_n hX dX2_init_41 rfl ?_
      refine ev_bipush hX dX2_init_42 (v := 8) (by decide +kernel) ?_
      refine ev_irem hX dX2_init_44 (by decide) ?_
      refine ev_callNi hX (As := [.inl (x1 / 8), .inl (x1 - x1 / 8 * 8)]) (rm := rm_X4_squareBeside) (c_X4_squareBeside_P l D cI cC td (x1 / 8) (x1 - x1 / 8 * 8) w) ⟨va_cnB (host := "FiveShogi") 2 hX.ts gX2_init_X4_squareBeside_n18 rfl rfl rfl (hX.sta.2.1 (_, 18, _, _) (List.mem_of_getElem? (i := 0) rfl)) (hX.ts _ (show Cond.initialized RX4 ∈ _ by decide +kernel)) (by decide +kernel) ⟨Nat.le_of_ble_eq_true rfl, Nat.le_of_ble_eq_true rfl⟩, hX.ts _ (show Cond.static yX4_squareBeside ∈ _ by decide +kernel), trivial⟩ rfl rfl rfl ⟨Nat.le_of_ble_eq_true rfl, Nat.le_of_ble_eq_true rfl⟩ dX2_init_45 rfl (fun z2 hz2 => ?_)
      refine ev_iast hX rfl dX2_init_48 (fun j3 => ?_)
      refine ev_iinc hX dX2_init_49 rfl (v := 1) (by decide +kernel) (L' := [some (.inr (.inl 1)), some (.inl (x1 + 1))]) rfl ?_
      refine ev_goto (tgt := 23) hX dX2_init_52 (by decide) ?_
      refine ev_mask [true, true] (L' := [some (.inr (.inl 1)), some (.inl (x1 + 1))]) rfl rfl ?_
      exact ih (x1 + 1) (mv_up z2.2 3 j3 z2.1)
set_option maxHeartbeats 4000000 in
set_option maxRecDepth 100000 in
theorem c_X2_init (l : Launch) (D : va_G) (cI cC : ClassId) (td : Nat → Option Nat) (w : mvW) : ∀ z, f_X2_init w = some z → mv_Cg l D vwCl cI cC tbX td yX2_init wsX2_init rm_X2_init [.inr (4, [some none, some none, some none, some none, some none, some none, none]), .inr (2, [some none, some none])] [.inr (4, [some none, some none, some none, some none, some none, some none, none]), .inr (2, [some (some 2), some (some 3)]), .inl (false, 44), .inl (false, 200)] w [.inr (.inl 1)] 2 244 z := by
  refine mv_startg (own := RX2) rfl (by decide) rfl rfl (L0 := [some (.inr (.inl 1)), none]) rfl (fun p e s m args below meth c A ad0 hX hr hin => ?_)
  rw [f_X2_init]
  refine ev_aload_n hX dX2_init_0 rfl ?_
  refine ev_objInit hX (show Cond.methodLink RX2 5 objectInit ∈ _ by decide +kernel) (by decide +kernel) (by decide +kernel) rfl (Nat.le_of_ble_eq_true rfl) (Nat.le_of_ble_eq_true rfl) dX2_init_1 ?_
  refine ev_aload_n hX dX2_init_4 rfl ?_
  refine ev_bipush hX dX2_init_5 (v := 44) (by decide +kernel) ?_
  refine ev_newi (n := 2) (N := 44) hX (by decide +kernel) (by decide +kernel) (by decide) rfl rfl rfl rfl rfl (sh' := [.inr (4, [some none, some none, some none, some none, some none, some none, none]), .inr (2, [some none, some none]), .inl (false, 44)]) rfl (Nat.le_of_ble_eq_true rfl) (Nat.le_of_ble_eq_true rfl) dX2_init_7 ?_
  refine ev_putr (k := 0) hX (T := TX2) in_X2_init_X2 tyX2 tyX2_ok nmX2 rfl rfl rfl (show Cond.fieldLink RX2 11 "FiveShogi$Position" "state" "[I" ∈ _ by decide +kernel) rfl hin rfl (show _ = some (tyX2 0) by decide +kernel) (fun _ => rfl) (fun _ => rfl) rfl (sh' := [.inr (4, [some none, some none, some none, some none, some none, some none, none]), .inr (2, [some (some 2), some none]), .inl (false, 44)]) rfl dX2_init_9 ?_
  refine ev_aload_n hX dX2_init_12 rfl ?_
  refine ev_sipush hX dX2_init_13 (v := 200) (by decide +kernel) ?_
  refine ev_newi (n := 3) (N := 200) hX (by decide +kernel) (by decide +kernel) (by decide) rfl rfl rfl rfl rfl (sh' := [.inr (4, [some none, some none, some none, some none, some none, some none, none]), .inr (2, [some (some 2), some none]), .inl (false, 44), .inl (false, 200)]) rfl (Nat.le_of_ble_eq_true rfl) (Nat.le_of_ble_eq_true rfl) dX2_init_16 ?_
  refine ev_putr (k := 1) hX (T := TX2) in_X2_init_X2 tyX2 tyX2_ok nmX2 rfl rfl rfl (show Cond.fieldLink RX2 15 "FiveShogi$Position" "beside" "[I" ∈ _ by decide +kernel) rfl hin rfl (show _ = some (tyX2 1) by decide +kernel) (fun _ => rfl) (fun _ => rfl) rfl (sh' := [.inr (4, [some none, some none, some none, some none, some none, some none, none]), .inr (2, [some (some 2), some (some 3)]), .inl (false, 44), .inl (false, 200)]) rfl dX2_init_18 ?_
  refine ev_iconst hX dX2_init_21 (v := 0) (by decide +kernel) ?_
  refine ev_istore_n hX dX2_init_22 rfl (L' := [some (.inr (.inl 1)), some (.inl 0)]) rfl ?_
  refine ev_mask [true, true] (L' := [some (.inr (.inl 1)), some (.inl 0)]) rfl rfl ?_
  exact e_X2_init_23 hX hr hin 4096 0 (mv_z (mv_z w 2) 3)
def rm_X3_init : Room := { frames := 1, cells := 4, slots := 581, locals := 12 }
set_option maxRecDepth 20000 in
theorem in_X3_init_X3 : ∀ w ∈ u_ws RX3 TX3 6, w ∈ wsX3_init := by decide +kernel
set_option maxHeartbeats 4000000 in
set_option maxRecDepth 100000 in
theorem c_X3_init_1 (l : Launch) (D : va_G) (cI cC : ClassId) (td : Nat → Option Nat) (w : mvW) : ∀ z, f_X3_init_1 w = some z → mv_Cg l D vwCl cI cC tbX td yX3_init wsX3_init rm_X3_init [.inr (4, [some (some 1), some none, some none, some none, some none, some none, none]), .inr (2, [some (some 2), some (some 3)]), .inl (false, 44), .inl (false, 200), .inr (3, [some none, some none, some none, some none, some none, none])] [.inr (4, [some (some 1), some none, some none, some none, some none, some none, none]), .inr (2, [some (some 2), some (some 3)]), .inl (false, 44), .inl (false, 200), .inr (3, [some (some 1), some (some 5), some (some 6), some (some 7), some (some 8), none]), .inl (false, 25), .inl (false, 25), .inl (false, 6), .inl (false, 525)] w [.inr (.inl 4), .inr (.inl 1)] 4 581 z := by
  refine mv_startg (own := RX3) rfl (by decide) rfl rfl (L0 := [some (.inr (.inl 4)), some (.inr (.inl 1))]) rfl (fun p e s m args below meth c A ad0 hX hr hin => ?_)
  rw [f_X3_init_1]
  refine ev_aload_n hX dX3_init_0 rfl ?_
  refine ev_objInit hX (show Cond.methodLink RX3 3 objectInit ∈ _ by decide +kernel) (by decide +kernel) (by decide +kernel) rfl (Nat.le_of_ble_eq_true rfl) (Nat.le_of_ble_eq_true rfl) dX3_init_1 ?_
  refine ev_aload_n hX dX3_init_4 rfl ?_
  refine ev_bipush hX dX3_init_5 (v := 25) (by decide +kernel) ?_
  refine ev_newi (n := 5) (N := 25) hX (by decide +kernel) (by decide +kernel) (by decide) rfl rfl rfl rfl rfl (sh' := [.inr (4, [some (some 1), some none, some none, some none, some none, some none, none]), .inr (2, [some (some 2), some (some 3)]), .inl (false, 44), .inl (false, 200), .inr (3, [some none, some none, some none, some none, some none, none]), .inl (false, 25)]) rfl (Nat.le_of_ble_eq_true rfl) (Nat.le_of_ble_eq_true rfl) dX3_init_7 ?_
  refine ev_putr (k := 1) hX (T := TX3) in_X3_init_X3 tyX3 tyX3_ok nmX3 rfl rfl rfl (show Cond.fieldLink RX3 9 "FiveShogi$Rules" "plainMoves" "[I" ∈ _ by decide +kernel) rfl hin rfl (show _ = some (tyX3 1) by decide +kernel) (fun _ => rfl) (fun _ => rfl) rfl (sh' := [.inr (4, [some (some 1), some none, some none, some none, some none, some none, none]), .inr (2, [some (some 2), some (some 3)]), .inl (false, 44), .inl (false, 200), .inr (3, [some none, some (some 5), some none, some none, some none, none]), .inl (false, 25)]) rfl dX3_init_9 ?_
  refine ev_aload_n hX dX3_init_12 rfl ?_
  refine ev_bipush hX dX3_init_13 (v := 25) (by decide +kernel) ?_
  refine ev_newi (n := 6) (N := 25) hX (by decide +kernel) (by decide +kernel) (by decide) rfl rfl rfl rfl rfl (sh' := [.inr (4, [some (some 1), some none, some none, some none, some none, some none, none]), .inr (2, [some (some 2), some (some 3)]), .inl (false, 44), .inl (false, 200), .inr (3, [some none, some (some 5), some none, some none, some none, none]), .inl (false, 25), .inl (false, 25)]) rfl (Nat.le_of_ble_eq_true rfl) (Nat.le_of_ble_eq_true rfl) dX3_init_15 ?_
  refine ev_putr (k := 2) hX (T := TX3) in_X3_init_X3 tyX3 tyX3_ok nmX3 rfl rfl rfl (show Cond.fieldLink RX3 15 "FiveShogi$Rules" "promotedMoves" "[I" ∈ _ by decide +kernel) rfl hin rfl (show _ = some (tyX3 2) by decide +kernel) (fun _ => rfl) (fun _ => rfl) rfl (sh' := [.inr (4, [some (some 1), some none, some none, some none, some none, some none, none]), .inr (2, [some (some 2), some (some 3)]), .inl (false, 44), .inl (false, 200), .inr (3, [some none, some (some 5), some (some 6), some none, some none, none]), .inl (false, 25), .inl (false, 25)]) rfl dX3_init_17 ?_
  refine ev_aload_n hX dX3_init_20 rfl ?_
  refine ev_bipush hX dX3_init_21 (v := 6) (by decide +kernel) ?_
  refine ev_newi (n := 7) (N := 6) hX (by decide +kernel) (by decide +kernel) (by decide) rfl rfl rfl rfl rfl (sh' := [.inr (4, [some (some 1), some none, some none, some none, some none, some none, none]), .inr (2, [some (some 2), some (some 3)]), .inl (false, 44), .inl (false, 200), .inr (3, [some none, some (some 5), some (some 6), some none, some none, none]), .inl (false, 25), .inl (false, 25), .inl (false, 6)]) rfl (Nat.le_of_ble_eq_true rfl) (Nat.le_of_ble_eq_true rfl) dX3_init_23 ?_
  refine ev_putr (k := 3) hX (T := TX3) in_X3_init_X3 tyX3 tyX3_ok nmX3 rfl rfl rfl (show Cond.fieldLink RX3 18 "FiveShogi$Rules" "kindDrops" "[I" ∈ _ by decide +kernel) rfl hin rfl (show _ = some (tyX3 3) by decide +kernel) (fun _ => rfl) (fun _ => rfl) rfl (sh' := [.inr (4, [some (some 1), some none, some none, some none, some none, some none, none]), .inr (2, [some (some 2), some (some 3)]), .inl (false, 44), .inl (false, 200), .inr (3, [some none, some (some 5), some (some 6), some (some 7), some none, none]), .inl (false, 25), .inl (false, 25), .inl (false, 6)]) rfl dX3_init_25 ?_
  refine ev_aload_n hX dX3_init_28 rfl ?_
  refine ev_sipush hX dX3_init_29 (v := 525) (by decide +kernel) ?_
  refine ev_newi (n := 8) (N := 525) hX (by decide +kernel) (by decide +kernel) (by decide) rfl rfl rfl rfl rfl (sh' := [.inr (4, [some (some 1), some none, some none, some none, some none, some none, none]), .inr (2, [some (some 2), some (some 3)]), .inl (false, 44), .inl (false, 200), .inr (3, [some none, some (some 5), some (some 6), some (some 7), some none, none]), .inl (false, 25), .inl (false, 25), .inl (false, 6), .inl (false, 525)]) rfl (Nat.le_of_ble_eq_true rfl) (Nat.le_of_ble_eq_true rfl) dX3_init_32 ?_
  refine ev_putr (k := 4) hX (T := TX3) in_X3_init_X3 tyX3 tyX3_ok nmX3 rfl rfl rfl (show Cond.fieldLink RX3 21 "FiveShogi$Rules" "list" "[I" ∈ _ by decide +kernel) rfl hin rfl (show _ = some (tyX3 4) by decide +kernel) (fun _ => rfl) (fun _ => rfl) rfl (sh' := [.inr (4, [some (some 1), some none, some none, some none, some none, some none, none]), .inr (2, [some (some 2), some (some 3)]), .inl (false, 44), .inl (false, 200), .inr (3, [some none, some (some 5), some (some 6), some (some 7), some (some 8), none]), .inl (false, 25), .inl (false, 25), .inl (false, 6), .inl (false, 525)]) rfl dX3_init_34 ?_
  refine ev_aload_n hX dX3_init_37 rfl ?_
  refine ev_iconst hX dX3_init_38 (v := 0) (by decide +kernel) ?_
  refine ev_put (k := 5) hX (T := TX3) (ty := .int) in_X3_init_X3 tyX3 tyX3_ok nmX3 rfl rfl rfl (show Cond.fieldLink RX3 24 "FiveShogi$Rules" "listSize" "I" ∈ _ by decide +kernel) rfl (by decide +kernel) rfl rfl rfl dX3_init_39 ?_
  refine ev_aload_n hX dX3_init_42 rfl ?_
  refine ev_aload_n hX dX3_init_43 rfl ?_
  refine ev_putr (k := 0) hX (T := TX3) in_X3_init_X3 tyX3 tyX3_ok nmX3 rfl rfl rfl (show Cond.fieldLink RX3 28 "FiveShogi$Rules" "position" "LFiveShogi$Position;" ∈ _ by decide +kernel) rfl hin rfl (show _ = some (tyX3 0) by decide +kernel) (fun _ => rfl) (fun _ => rfl) rfl (sh' := [.inr (4, [some (some 1), some none, some none, some none, some none, some none, none]), .inr (2, [some (some 2), some (some 3)]), .inl (false, 44), .inl (false, 200), .inr (3, [some (some 1), some (some 5), some (some 6), some (some 7), some (some 8), none]), .inl (false, 25), .inl (false, 25), .inl (false, 6), .inl (false, 525)]) rfl dX3_init_44 ?_
  exact ev_gret hX hr rfl rfl dX3_init_47
def rm_X0_init : Room := { frames := 1, cells := 1, slots := 176, locals := 12 }
set_option maxRecDepth 20000 in
theorem in_X0_init_X0 : ∀ w ∈ u_ws RX0 TX0 2, w ∈ wsX0_init := by decide +kernel
set_option maxHeartbeats 4000000 in
set_option maxRecDepth 100000 in
theorem c_X0_init (l : Launch) (D : va_G) (cI cC : ClassId) (td : Nat → Option Nat) (w : mvW) : ∀ z, f_X0_init w = some z → mv_Cg l D vwCl cI cC tbX td yX0_init wsX0_init rm_X0_init [.inr (4, [some (some 1), some (some 4), some none, some none, some none, some none, none]), .inr (2, [some (some 2), some (some 3)]), .inl (false, 44), .inl (false, 200), .inr (3, [some (some 1), some (some 5), some (some 6), some (some 7), some (some 8), none]), .inl (false, 25), .inl (false, 25), .inl (false, 6), .inl (false, 525), .inr (0, [some none, none])] [.inr (4, [some (some 1), some (some 4), some none, some none, some none, some none, none]), .inr (2, [some (some 2), some (some 3)]), .inl (false, 44), .inl (false, 200), .inr (3, [some (some 1), some (some 5), some (some 6), some (some 7), some (some 8), none]), .inl (false, 25), .inl (false, 25), .inl (false, 6), .inl (false, 525), .inr (0, [some (some 10), none]), .inl (false, 176)] w [.inr (.inl 9)] 1 176 z := by
  refine mv_startg (own := RX0) rfl (by decide) rfl rfl (L0 := [some (.inr (.inl 9))]) rfl (fun p e s m args below meth c A ad0 hX hr hin => ?_)
  rw [f_X0_init]
  refine ev_aload_n hX dX0_init_0 rfl ?_
  refine ev_objInit hX (show Cond.methodLink RX0 1 objectInit ∈ _ by decide +kernel) (by decide +kernel) (by decide +kernel) rfl (Nat.le_of_ble_eq_true rfl) (Nat.le_of_ble_eq_true rfl) dX0_init_1 ?_
  refine ev_aload_n hX dX0_init_4 rfl ?_
  refine ev_sipush hX dX0_init_5 (v := 176) (by decide +kernel) ?_
  refine ev_newi (n := 10) (N := 176) hX (by decide +kernel) (by decide +kernel) (by decide) rfl rfl rfl rfl rfl (sh' := [.inr (4, [some (some 1), some (some 4), some none, some none, some none, some none, none]), .inr (2, [some (some 2), some (some 3)]), .inl (false, 44), .inl (false, 200), .inr (3, [some (some 1), some (some 5), some (some 6), some (some 7), some (some 8), none]), .inl (false, 25), .inl (false, 25), .inl (false, 6), .inl (false, 525), .inr (0, [some none, none]), .inl (false, 176)]) rfl (Nat.le_of_ble_eq_true rfl) (Nat.le_of_ble_eq_true rfl) dX0_init_8 ?_
  refine ev_putr (k := 0) hX (T := TX0) in_X0_init_X0 tyX0 tyX0_ok nmX0 rfl rfl rfl (show Cond.fieldLink RX0 11 "FiveShogi$History" "states" "[I" ∈ _ by decide +kernel) rfl hin rfl (show _ = some (tyX0 0) by decide +kernel) (fun _ => rfl) (fun _ => rfl) rfl (sh' := [.inr (4, [some (some 1), some (some 4), some none, some none, some none, some none, none]), .inr (2, [some (some 2), some (some 3)]), .inl (false, 44), .inl (false, 200), .inr (3, [some (some 1), some (some 5), some (some 6), some (some 7), some (some 8), none]), .inl (false, 25), .inl (false, 25), .inl (false, 6), .inl (false, 525), .inr (0, [some (some 10), none]), .inl (false, 176)]) rfl dX0_init_10 ?_
  refine ev_aload_n hX dX0_init_13 rfl ?_
  refine ev_iconst hX dX0_init_14 (v := 0) (by decide +kernel) ?_
  refine ev_put (k := 1) hX (T := TX0) (ty := .int) in_X0_init_X0 tyX0 tyX0_ok nmX0 rfl rfl rfl (show Cond.fieldLink RX0 15 "FiveShogi$History" "size" "I" ∈ _ by decide +kernel) rfl (by decide +kernel) rfl rfl rfl dX0_init_15 ?_
  exact ev_gret hX hr rfl rfl dX0_init_18
def rm_X1_init : Room := { frames := 1, cells := 2, slots := 120, locals := 12 }
set_option maxRecDepth 20000 in
theorem in_X1_init_X1 : ∀ w ∈ u_ws RX1 TX1 5, w ∈ wsX1_init := by decide +kernel
set_option maxHeartbeats 4000000 in
set_option maxRecDepth 100000 in
theorem c_X1_init (l : Launch) (D : va_G) (cI cC : ClassId) (td : Nat → Option Nat) (w : mvW) : ∀ z, f_X1_init w = some z → mv_Cg l D vwCl cI cC tbX td yX1_init wsX1_init rm_X1_init [.inr (4, [some (some 1), some (some 4), some (some 9), some none, some none, some none, none]), .inr (2, [some (some 2), some (some 3)]), .inl (false, 44), .inl (false, 200), .inr (3, [some (some 1), some (some 5), some (some 6), some (some 7), some (some 8), none]), .inl (false, 25), .inl (false, 25), .inl (false, 6), .inl (false, 525), .inr (0, [some (some 10), none]), .inl (false, 176), .inr (1, [some none, none, some none, none, none])] [.inr (4, [some (some 1), some (some 4), some (some 9), some none, some none, some none, none]), .inr (2, [some (some 2), some (some 3)]), .inl (false, 44), .inl (false, 200), .inr (3, [some (some 1), some (some 5), some (some 6), some (some 7), some (some 8), none]), .inl (false, 25), .inl (false, 25), .inl (false, 6), .inl (false, 525), .inr (0, [some (some 10), none]), .inl (false, 176), .inr (1, [some (some 12), none, some (some 13), none, none]), .inl (true, 60), .inl (false, 60)] w [.inr (.inl 11)] 2 120 z := by
  refine mv_startg (own := RX1) rfl (by decide) rfl rfl (L0 := [some (.inr (.inl 11))]) rfl (fun p e s m args below meth c A ad0 hX hr hin => ?_)
  rw [f_X1_init]
  refine ev_aload_n hX dX1_init_0 rfl ?_
  refine ev_objInit hX (show Cond.methodLink RX1 3 objectInit ∈ _ by decide +kernel) (by decide +kernel) (by decide +kernel) rfl (Nat.le_of_ble_eq_true rfl) (Nat.le_of_ble_eq_true rfl) dX1_init_1 ?_
  refine ev_aload_n hX dX1_init_4 rfl ?_
  refine ev_bipush hX dX1_init_5 (v := 60) (by decide +kernel) ?_
  refine ev_newc (n := 12) (N := 60) hX (by decide +kernel) (by decide +kernel) (by decide) rfl rfl rfl rfl rfl (sh' := [.inr (4, [some (some 1), some (some 4), some (some 9), some none, some none, some none, none]), .inr (2, [some (some 2), some (some 3)]), .inl (false, 44), .inl (false, 200), .inr (3, [some (some 1), some (some 5), some (some 6), some (some 7), some (some 8), none]), .inl (false, 25), .inl (false, 25), .inl (false, 6), .inl (false, 525), .inr (0, [some (some 10), none]), .inl (false, 176), .inr (1, [some none, none, some none, none, none]), .inl (true, 60)]) rfl (Nat.le_of_ble_eq_true rfl) (Nat.le_of_ble_eq_true rfl) dX1_init_7 ?_
  refine ev_putr (k := 0) hX (T := TX1) in_X1_init_X1 tyX1 tyX1_ok nmX1 rfl rfl rfl (show Cond.fieldLink RX1 11 "FiveShogi$PlayText" "signs" "[C" ∈ _ by decide +kernel) rfl hin rfl (show _ = some (tyX1 0) by decide +kernel) (fun _ => rfl) (fun _ => rfl) rfl (sh' := [.inr (4, [some (some 1), some (some 4), some (some 9), some none, some none, some none, none]), .inr (2, [some (some 2), some (some 3)]), .inl (false, 44), .inl (false, 200), .inr (3, [some (some 1), some (some 5), some (some 6), some (some 7), some (some 8), none]), .inl (false, 25), .inl (false, 25), .inl (false, 6), .inl (false, 525), .inr (0, [some (some 10), none]), .inl (false, 176), .inr (1, [some (some 12), none, some none, none, none]), .inl (true, 60)]) rfl dX1_init_9 ?_
  refine ev_aload_n hX dX1_init_12 rfl ?_
  refine ev_iconst hX dX1_init_13 (v := 0) (by decide +kernel) ?_
  refine ev_put (k := 1) hX (T := TX1) (ty := .int) in_X1_init_X1 tyX1 tyX1_ok nmX1 rfl rfl rfl (show Cond.fieldLink RX1 15 "FiveShogi$PlayText" "size" "I" ∈ _ by decide +kernel) rfl (by decide +kernel) rfl rfl rfl dX1_init_14 ?_
  refine ev_aload_n hX dX1_init_17 rfl ?_
  refine ev_bipush hX dX1_init_18 (v := 60) (by decide +kernel) ?_
  refine ev_newi (n := 13) (N := 60) hX (by decide +kernel) (by decide +kernel) (by decide) rfl rfl rfl rfl rfl (sh' := [.inr (4, [some (some 1), some (some 4), some (some 9), some none, some none, some none, none]), .inr (2, [some (some 2), some (some 3)]), .inl (false, 44), .inl (false, 200), .inr (3, [some (some 1), some (some 5), some (some 6), some (some 7), some (some 8), none]), .inl (false, 25), .inl (false, 25), .inl (false, 6), .inl (false, 525), .inr (0, [some (some 10), none]), .inl (false, 176), .inr (1, [some (some 12), none, some none, none, none]), .inl (true, 60), .inl (false, 60)]) rfl (Nat.le_of_ble_eq_true rfl) (Nat.le_of_ble_eq_true rfl) dX1_init_20 ?_
  refine ev_putr (k := 2) hX (T := TX1) in_X1_init_X1 tyX1 tyX1_ok nmX1 rfl rfl rfl (show Cond.fieldLink RX1 19 "FiveShogi$PlayText" "plays" "[I" ∈ _ by decide +kernel) rfl hin rfl (show _ = some (tyX1 2) by decide +kernel) (fun _ => rfl) (fun _ => rfl) rfl (sh' := [.inr (4, [some (some 1), some (some 4), some (some 9), some none, some none, some none, none]), .inr (2, [some (some 2), some (some 3)]), .inl (false, 44), .inl (false, 200), .inr (3, [some (some 1), some (some 5), some (some 6), some (some 7), some (some 8), none]), .inl (false, 25), .inl (false, 25), .inl (false, 6), .inl (false, 525), .inr (0, [some (some 10), none]), .inl (false, 176), .inr (1, [some (some 12), none, some (some 13), none, none]), .inl (true, 60), .inl (false, 60)]) rfl dX1_init_22 ?_
  refine ev_aload_n hX dX1_init_25 rfl ?_
  refine ev_iconst hX dX1_init_26 (v := 0) (by decide +kernel) ?_
  refine ev_put (k := 3) hX (T := TX1) (ty := .int) in_X1_init_X1 tyX1 tyX1_ok nmX1 rfl rfl rfl (show Cond.fieldLink RX1 23 "FiveShogi$PlayText" "playsRead" "I" ∈ _ by decide +kernel) rfl (by decide +kernel) rfl rfl rfl dX1_init_27 ?_
  refine ev_aload_n hX dX1_init_30 rfl ?_
  refine ev_iconst hX dX1_init_31 (v := 0) (by decide +kernel) ?_
  refine ev_put (k := 4) hX (T := TX1) (ty := .int) in_X1_init_X1 tyX1 tyX1_ok nmX1 rfl rfl rfl (show Cond.fieldLink RX1 26 "FiveShogi$PlayText" "cursor" "I" ∈ _ by decide +kernel) rfl (by decide +kernel) rfl rfl rfl dX1_init_32 ?_
  exact ev_gret hX hr rfl rfl dX1_init_35
def rm_X4_init : Room := { frames := 3, cells := 15, slots := 1224, locals := 65 }
set_option maxRecDepth 20000 in
theorem in_X4_init_X2 : ∀ w ∈ u_ws RX2 TX2 2, w ∈ wsX4_init := by decide +kernel
set_option maxRecDepth 20000 in
theorem in_X4_init_X4 : ∀ w ∈ u_ws RX4 TX4 7, w ∈ wsX4_init := by decide +kernel
set_option maxRecDepth 20000 in
theorem in_X4_init_X3 : ∀ w ∈ u_ws RX3 TX3 6, w ∈ wsX4_init := by decide +kernel
set_option maxRecDepth 20000 in
theorem in_X4_init_X0 : ∀ w ∈ u_ws RX0 TX0 2, w ∈ wsX4_init := by decide +kernel
set_option maxRecDepth 20000 in
theorem in_X4_init_X1 : ∀ w ∈ u_ws RX1 TX1 5, w ∈ wsX4_init := by decide +kernel
set_option maxHeartbeats 4000000 in
set_option maxRecDepth 100000 in
theorem c_X4_init (l : Launch) (D : va_G) (cI cC : ClassId) (td : Nat → Option Nat) (w : mvW) : ∀ z, f_X4_init w = some z → mv_Cg l D vwCl cI cC tbX td yX4_init wsX4_init rm_X4_init [.inr (4, [some none, some none, some none, some none, some none, some none, none])] [.inr (4, [some (some 1), some (some 4), some (some 9), some (some 11), some (some 14), some (some 15), none]), .inr (2, [some (some 2), some (some 3)]), .inl (false, 44), .inl (false, 200), .inr (3, [some (some 1), some (some 5), some (some 6), some (some 7), some (some 8), none]), .inl (false, 25), .inl (false, 25), .inl (false, 6), .inl (false, 525), .inr (0, [some (some 10), none]), .inl (false, 176), .inr (1, [some (some 12), none, some (some 13), none, none]), .inl (true, 60), .inl (false, 60), .inl (false, 44), .inl (false, 44)] w [.inr (.inl 0)] 15 1224 z := by
  refine mv_startg (own := RX4) rfl (by decide) rfl rfl (L0 := [some (.inr (.inl 0))]) rfl (fun p e s m args below meth c A ad0 hX hr hin => ?_)
  rw [f_X4_init]
  refine ev_aload_n hX dX4_init_0 rfl ?_
  refine ev_objInit hX (show Cond.methodLink RX4 3 objectInit ∈ _ by decide +kernel) (by decide +kernel) (by decide +kernel) rfl (Nat.le_of_ble_eq_true rfl) (Nat.le_of_ble_eq_true rfl) dX4_init_1 ?_
  refine ev_aload_n hX dX4_init_4 rfl ?_
  refine ev_new (ci := 2) (n := 1) (tm := [some none, some none]) (fs := [.null, .null]) hX (C := RX2) (T := TX2) (N := 2) in_X4_init_X2 tyX2 tyX2_ok (show Cond.classLink RX4 9 RX2 ∈ _ by decide +kernel) (by decide +kernel) (by decide +kernel) rfl (fun j hj => by rcases (show j = 0 ∨ j = 1 by omega) with rfl | rfl <;> rfl) (fun _ => rfl) rfl rfl rfl rfl rfl (sh' := [.inr (4, [some none, some none, some none, some none, some none, some none, none]), .inr (2, [some none, some none])]) rfl (Nat.le_of_ble_eq_true rfl) (Nat.le_of_ble_eq_true rfl) dX4_init_5 ?_
  refine ev_dup hX dX4_init_8 ?_
  refine ev_callg hX (k0 := 1) (As := []) (rm := rm_X2_init) (nn := 2) (c_X2_init l D cI cC td (mv_z w 1)) (cwI 0 hX.ts gX4_init_X2_init rfl rfl rfl (hX.ts _ (show Cond.initialized RX2 ∈ _ by decide +kernel)) (hX.ts _ (show Cond.methodLink RX4 11 yX2_init ∈ _ by decide +kernel)) (hX.ts _ (show Cond.instanceMethod yX2_init ∈ _ by decide +kernel)) rfl (by decide +kernel) ⟨Nat.le_of_ble_eq_true rfl, Nat.le_of_ble_eq_true rfl⟩) rfl rfl rfl ⟨Nat.le_of_ble_eq_true rfl, Nat.le_of_ble_eq_true rfl⟩ rfl rfl rfl rfl dX4_init_9 rfl (fun z1 hz1 => ?_)
  refine ev_putr (k := 0) hX (T := TX4) in_X4_init_X4 tyX4 tyX4_ok nmX4 rfl rfl rfl (show Cond.fieldLink RX4 12 "FiveShogi" "position" "LFiveShogi$Position;" ∈ _ by decide +kernel) rfl hin rfl (show _ = some (tyX4 0) by decide +kernel) (fun _ => rfl) (fun _ => rfl) rfl (sh' := [.inr (4, [some (some 1), some none, some none, some none, some none, some none, none]), .inr (2, [some (some 2), some (some 3)]), .inl (false, 44), .inl (false, 200)]) rfl dX4_init_12 ?_
  refine ev_aload_n hX dX4_init_15 rfl ?_
  refine ev_new (ci := 3) (n := 4) (tm := [some none, some none, some none, some none, some none, none]) (fs := [.null, .null, .null, .null, .null, .int 0]) hX (C := RX3) (T := TX3) (N := 6) in_X4_init_X3 tyX3 tyX3_ok (show Cond.classLink RX4 16 RX3 ∈ _ by decide +kernel) (by decide +kernel) (by decide +kernel) rfl (fun j hj => by rcases (show j = 0 ∨ j = 1 ∨ j = 2 ∨ j = 3 ∨ j = 4 ∨ j = 5 by omega) with rfl | rfl | rfl | rfl | rfl | rfl <;> rfl) (fun _ => rfl) rfl rfl rfl rfl rfl (sh' := [.inr (4, [some (some 1), some none, some none, some none, some none, some none, none]), .inr (2, [some (some 2), some (some 3)]), .inl (false, 44), .inl (false, 200), .inr (3, [some none, some none, some none, some none, some none, none])]) rfl (Nat.le_of_ble_eq_true rfl) (Nat.le_of_ble_eq_true rfl) dX4_init_16 ?_
  refine ev_dup hX dX4_init_19 ?_
  refine ev_aload_n hX dX4_init_20 rfl ?_
  refine ev_getr (k := 0) hX (T := TX4) in_X4_init_X4 rfl rfl rfl (show Cond.fieldLink RX4 12 "FiveShogi" "position" "LFiveShogi$Position;" ∈ _ by decide +kernel) rfl dX4_init_21 ?_
  refine ev_callg hX (k0 := 4) (As := [.inr (.inl 1)]) (rm := rm_X3_init) (nn := 5) (c_X3_init_1 l D cI cC td (mv_z z1 4)) (cwI 1 hX.ts gX4_init_X3_init rfl rfl rfl (hX.ts _ (show Cond.initialized RX3 ∈ _ by decide +kernel)) (hX.ts _ (show Cond.methodLink RX4 18 yX3_init ∈ _ by decide +kernel)) (hX.ts _ (show Cond.instanceMethod yX3_init ∈ _ by decide +kernel)) rfl (by decide +kernel) ⟨Nat.le_of_ble_eq_true rfl, Nat.le_of_ble_eq_true rfl⟩) rfl rfl rfl ⟨Nat.le_of_ble_eq_true rfl, Nat.le_of_ble_eq_true rfl⟩ rfl rfl rfl rfl dX4_init_24 rfl (fun z2 hz2 => ?_)
  refine ev_putr (k := 1) hX (T := TX4) in_X4_init_X4 tyX4 tyX4_ok nmX4 rfl rfl rfl (show Cond.fieldLink RX4 21 "FiveShogi" "rules" "LFiveShogi$Rules;" ∈ _ by decide +kernel) rfl hin rfl (show _ = some (tyX4 1) by decide +kernel) (fun _ => rfl) (fun _ => rfl) rfl (sh' := [.inr (4, [some (some 1), some (some 4), some none, some none, some none, some none, none]), .inr (2, [some (some 2), some (some 3)]), .inl (false, 44), .inl (false, 200), .inr (3, [some (some 1), some (some 5), some (some 6), some (some 7), some (some 8), none]), .inl (false, 25), .inl (false, 25), .inl (false, 6), .inl (false, 525)]) rfl dX4_init_27 ?_
  refine ev_aload_n hX dX4_init_30 rfl ?_
  refine ev_new (ci := 0) (n := 9) (tm := [some none, none]) (fs := [.null, .int 0]) hX (C := RX0) (T := TX0) (N := 2) in_X4_init_X0 tyX0 tyX0_ok (show Cond.classLink RX4 25 RX0 ∈ _ by decide +kernel) (by decide +kernel) (by decide +kernel) rfl (fun j hj => by rcases (show j = 0 ∨ j = 1 by omega) with rfl | rfl <;> rfl) (fun _ => rfl) rfl rfl rfl rfl rfl (sh' := [.inr (4, [some (some 1), some (some 4), some none, some none, some none, some none, none]), .inr (2, [some (some 2), some (some 3)]), .inl (false, 44), .inl (false, 200), .inr (3, [some (some 1), some (some 5), some (some 6), some (some 7), some (some 8), none]), .inl (false, 25), .inl (false, 25), .inl (false, 6), .inl (false, 525), .inr (0, [some none, none])]) rfl (Nat.le_of_ble_eq_true rfl) (Nat.le_of_ble_eq_true rfl) dX4_init_31 ?_
  refine ev_dup hX dX4_init_34 ?_
  refine ev_callgN hX (k0 := 9) (As := []) (rm := rm_X0_init) (nn := 10) (c_X0_init l D cI cC td (mv_z z2 9)) ⟨va_cnB (host := "FiveShogi") 0 hX.ts gX4_init_X0_init_n27 rfl rfl rfl (hX.sta.2.1 (_, 27, _, _) (List.mem_of_getElem? (i := 5) rfl)) (hX.ts _ (show Cond.initialized RX0 ∈ _ by decide +kernel)) (by decide +kernel) ⟨Nat.le_of_ble_eq_true rfl, Nat.le_of_ble_eq_true rfl⟩, rfl, hX.ts _ (show Cond.instanceMethod yX0_init ∈ _ by decide +kernel)⟩ rfl rfl rfl ⟨Nat.le_of_ble_eq_true rfl, Nat.le_of_ble_eq_true rfl⟩ rfl rfl rfl rfl dX4_init_35 rfl (fun z3 hz3 => ?_)
  refine ev_putr (k := 2) hX (T := TX4) in_X4_init_X4 tyX4 tyX4_ok nmX4 rfl rfl rfl (show Cond.fieldLink RX4 28 "FiveShogi" "history" "LFiveShogi$History;" ∈ _ by decide +kernel) rfl hin rfl (show _ = some (tyX4 2) by decide +kernel) (fun _ => rfl) (fun _ => rfl) rfl (sh' := [.inr (4, [some (some 1), some (some 4), some (some 9), some none, some none, some none, none]), .inr (2, [some (some 2), some (some 3)]), .inl (false, 44), .inl (false, 200), .inr (3, [some (some 1), some (some 5), some (some 6), some (some 7), some (some 8), none]), .inl (false, 25), .inl (false, 25), .inl (false, 6), .inl (false, 525), .inr (0, [some (some 10), none]), .inl (false, 176)]) rfl dX4_init_38 ?_
  refine ev_aload_n hX dX4_init_41 rfl ?_
  refine ev_new (ci := 1) (n := 11) (tm := [some none, none, some none, none, none]) (fs := [.null, .int 0, .null, .int 0, .int 0]) hX (C := RX1) (T := TX1) (N := 5) in_X4_init_X1 tyX1 tyX1_ok (show Cond.classLink RX4 32 RX1 ∈ _ by decide +kernel) (by decide +kernel) (by decide +kernel) rfl (fun j hj => by rcases (show j = 0 ∨ j = 1 ∨ j = 2 ∨ j = 3 ∨ j = 4 by omega) with rfl | rfl | rfl | rfl | rfl <;> rfl) (fun _ => rfl) rfl rfl rfl rfl rfl (sh' := [.inr (4, [some (some 1), some (some 4), some (some 9), some none, some none, some none, none]), .inr (2, [some (some 2), some (some 3)]), .inl (false, 44), .inl (false, 200), .inr (3, [some (some 1), some (some 5), some (some 6), some (some 7), some (some 8), none]), .inl (false, 25), .inl (false, 25), .inl (false, 6), .inl (false, 525), .inr (0, [some (some 10), none]), .inl (false, 176), .inr (1, [some none, none, some none, none, none])]) rfl (Nat.le_of_ble_eq_true rfl) (Nat.le_of_ble_eq_true rfl) dX4_init_42 ?_
  refine ev_dup hX dX4_init_45 ?_
  refine ev_callgN hX (k0 := 11) (As := []) (rm := rm_X1_init) (nn := 12) (c_X1_init l D cI cC td (mv_z z3 11)) ⟨va_cnB (host := "FiveShogi") 0 hX.ts gX4_init_X1_init_n34 rfl rfl rfl (hX.sta.2.1 (_, 34, _, _) (List.mem_of_getElem? (i := 6) rfl)) (hX.ts _ (show Cond.initialized RX1 ∈ _ by decide +kernel)) (by decide +kernel) ⟨Nat.le_of_ble_eq_true rfl, Nat.le_of_ble_eq_true rfl⟩, rfl, hX.ts _ (show Cond.instanceMethod yX1_init ∈ _ by decide +kernel)⟩ rfl rfl rfl ⟨Nat.le_of_ble_eq_true rfl, Nat.le_of_ble_eq_true rfl⟩ rfl rfl rfl rfl dX4_init_46 rfl (fun z4 hz4 => ?_)
  refine ev_putr (k := 3) hX (T := TX4) in_X4_init_X4 tyX4 tyX4_ok nmX4 rfl rfl rfl (show Cond.fieldLink RX4 35 "FiveShogi" "text" "LFiveShogi$PlayText;" ∈ _ by decide +kernel) rfl hin rfl (show _ = some (tyX4 3) by decide +kernel) (fun _ => rfl) (fun _ => rfl) rfl (sh' := [.inr (4, [some (some 1), some (some 4), some (some 9), some (some 11), some none, some none, none]), .inr (2, [some (some 2), some (some 3)]), .inl (false, 44), .inl (false, 200), .inr (3, [some (some 1), some (some 5), some (some 6), some (some 7), some (some 8), none]), .inl (false, 25), .inl (false, 25), .inl (false, 6), .inl (false, 525), .inr (0, [some (some 10), none]), .inl (false, 176), .inr (1, [some (some 12), none, some (some 13), none, none]), .inl (true, 60), .inl (false, 60)]) rfl dX4_init_49 ?_
  refine ev_aload_n hX dX4_init_52 rfl ?_
  refine ev_bipush hX dX4_init_53 (v := 44) (by decide +kernel) ?_
  refine ev_newi (n := 14) (N := 44) hX (by decide +kernel) (by decide +kernel) (by decide) rfl rfl rfl rfl rfl (sh' := [.inr (4, [some (some 1), some (some 4), some (some 9), some (some 11), some none, some none, none]), .inr (2, [some (some 2), some (some 3)]), .inl (false, 44), .inl (false, 200), .inr (3, [some (some 1), some (some 5), some (some 6), some (some 7), some (some 8), none]), .inl (false, 25), .inl (false, 25), .inl (false, 6), .inl (false, 525), .inr (0, [some (some 10), none]), .inl (false, 176), .inr (1, [some (some 12), none, some (some 13), none, none]), .inl (true, 60), .inl (false, 60), .inl (false, 44)]) rfl (Nat.le_of_ble_eq_true rfl) (Nat.le_of_ble_eq_true rfl) dX4_init_55 ?_
  refine ev_putr (k := 4) hX (T := TX4) in_X4_init_X4 tyX4 tyX4_ok nmX4 rfl rfl rfl (show Cond.fieldLink RX4 39 "FiveShogi" "before" "[I" ∈ _ by decide +kernel) rfl hin rfl (show _ = some (tyX4 4) by decide +kernel) (fun _ => rfl) (fun _ => rfl) rfl (sh' := [.inr (4, [some (some 1), some (some 4), some (some 9), some (some 11), some (some 14), some none, none]), .inr (2, [some (some 2), some (some 3)]), .inl (false, 44), .inl (false, 200), .inr (3, [some (some 1), some (some 5), some (some 6), some (some 7), some (some 8), none]), .inl (false, 25), .inl (false, 25), .inl (false, 6), .inl (false, 525), .inr (0, [some (some 10), none]), .inl (false, 176), .inr (1, [some (some 12), none, some (some 13), none, none]), .inl (true, 60), .inl (false, 60), .inl (false, 44)]) rfl dX4_init_57 ?_
  refine ev_aload_n hX dX4_init_60 rfl ?_
  refine ev_bipush hX dX4_init_61 (v := 44) (by decide +kernel) ?_
  refine ev_newi (n := 15) (N := 44) hX (by decide +kernel) (by decide +kernel) (by decide) rfl rfl rfl rfl rfl (sh' := [.inr (4, [some (some 1), some (some 4), some (some 9), some (some 11), some (some 14), some none, none]), .inr (2, [some (some 2), some (some 3)]), .inl (false, 44), .inl (false, 200), .inr (3, [some (some 1), some (some 5), some (some 6), some (some 7), some (some 8), none]), .inl (false, 25), .inl (false, 25), .inl (false, 6), .inl (false, 525), .inr (0, [some (some 10), none]), .inl (false, 176), .inr (1, [some (some 12), none, some (some 13), none, none]), .inl (true, 60), .inl (false, 60), .inl (false, 44), .inl (false, 44)]) rfl (Nat.le_of_ble_eq_true rfl) (Nat.le_of_ble_eq_true rfl) dX4_init_63 ?_
  refine ev_putr (k := 5) hX (T := TX4) in_X4_init_X4 tyX4 tyX4_ok nmX4 rfl rfl rfl (show Cond.fieldLink RX4 43 "FiveShogi" "snapshot" "[I" ∈ _ by decide +kernel) rfl hin rfl (show _ = some (tyX4 5) by decide +kernel) (fun _ => rfl) (fun _ => rfl) rfl (sh' := [.inr (4, [some (some 1), some (some 4), some (some 9), some (some 11), some (some 14), some (some 15), none]), .inr (2, [some (some 2), some (some 3)]), .inl (false, 44), .inl (false, 200), .inr (3, [some (some 1), some (some 5), some (some 6), some (some 7), some (some 8), none]), .inl (false, 25), .inl (false, 25), .inl (false, 6), .inl (false, 525), .inr (0, [some (some 10), none]), .inl (false, 176), .inr (1, [some (some 12), none, some (some 13), none, none]), .inl (true, 60), .inl (false, 60), .inl (false, 44), .inl (false, 44)]) rfl dX4_init_65 ?_
  refine ev_aload_n hX dX4_init_68 rfl ?_
  refine ev_iconst hX dX4_init_69 (v := 0) (by decide +kernel) ?_
  refine ev_put (k := 6) hX (T := TX4) (ty := .boolean) in_X4_init_X4 tyX4 tyX4_ok nmX4 rfl rfl rfl (show Cond.fieldLink RX4 46 "FiveShogi" "hasSnapshot" "Z" ∈ _ by decide +kernel) rfl (by decide +kernel) rfl rfl rfl dX4_init_70 ?_
  exact ev_gret hX hr rfl rfl dX4_init_73
def rm_X2_sideToPlay : Room := { frames := 0, cells := 0, slots := 0, locals := 0 }
set_option maxRecDepth 20000 in
theorem in_X2_sideToPlay_X2 : ∀ w ∈ u_ws RX2 TX2 2, w ∈ wsX2_sideToPlay := by decide +kernel
set_option maxHeartbeats 4000000 in
set_option maxRecDepth 100000 in
theorem c_X2_sideToPlay (l : Launch) (D : va_G) (cI cC : ClassId) (td : Nat → Option Nat) (w : mvW) : ∀ z, f_X2_sideToPlay w = some z → mv_Ci l D vwCl cI cC tbX td yX2_sideToPlay wsX2_sideToPlay rm_X2_sideToPlay shX w [.inr (.inl 1)] z := by
  refine mv_starti (own := RX2) rfl (by decide) rfl rfl (L0 := [some (.inr (.inl 1))]) rfl (fun p e s m args below meth c A ad0 hX hr => ?_)
  rw [f_X2_sideToPlay]
  refine ev_aload_n hX dX2_sideToPlay_0 rfl ?_
  refine ev_getr (k := 0) hX (T := TX2) in_X2_sideToPlay_X2 rfl rfl rfl (show Cond.fieldLink RX2 11 "FiveShogi$Position" "state" "[I" ∈ _ by decide +kernel) rfl dX2_sideToPlay_1 ?_
  refine ev_bipush hX dX2_sideToPlay_4 (v := 39) (by decide +kernel) ?_
  refine ev_ialdc (j := 39) hX rfl (by decide +kernel) dX2_sideToPlay_6 ?_
  exact ev_ireti hX hr dX2_sideToPlay_7
def rm_X2_menOnBoard : Room := { frames := 0, cells := 0, slots := 0, locals := 0 }
set_option maxRecDepth 20000 in
theorem in_X2_menOnBoard_X2 : ∀ w ∈ u_ws RX2 TX2 2, w ∈ wsX2_menOnBoard := by decide +kernel
set_option maxHeartbeats 4000000 in
set_option maxRecDepth 100000 in
theorem e_X2_menOnBoard_4 (hX : mv_X p s m args meth c D vwCl cI cC tbX td A cX2_menOnBoard 3 RX2 wsX2_menOnBoard) (hr : meth.sig.returnType = (some .int)) : ∀ (n : Nat) (x1 : Int32) (x2 : Int32) (w : mvW), EV p l e (headSpec wsX2_menOnBoard rm_X2_menOnBoard).room s m args below meth c D vwCl cI cC td A (fun a => a = ad0) (mv_Qi below args s D vwCl cI cC shX ad0 A) 0 0 shX [some (.inr (.inl 1)), some (.inl x1), some (.inl x2)] [] 4 w (f_X2_menOnBoard_4 n x1 x2 w) := by
  intro n
  induction n with
  | zero => intro x1 x2 w; exact ev_none
  | succ n ih =>
    intro x1 x2 w
    rw [f_X2_menOnBoard_4]
    refine ev_iload_n hX dX2_menOnBoard_4 rfl ?_
    refine ev_bipush hX dX2_menOnBoard_5 (v := 25) (by decide +kernel) ?_
    refine ev_icmp_ge (tgt := 30) hX dX2_menOnBoard_7 (by decide) ?_ ?_
    · refine ev_iload_n hX dX2_menOnBoard_30 rfl ?_
      exact ev_ireti hX hr dX2_menOnBoard_31
    · refine ev_aload_n hX dX2_menOnBoard_10 rfl ?_
      refine ev_getr (k := 0) hX (T := TX2) in_X2_menOnBoard_X2 rfl rfl rfl (show Cond.fieldLink RX2 11 "FiveShogi$Position" "state" "[I" ∈ _ by decide +kernel) rfl dX2_menOnBoard_11 ?_
      refine ev_iload_n hX dX2_menOnBoard_14 rfl ?_
      refine ev_iald hX rfl dX2_menOnBoard_15 (fun j1 => ?_)
      refine ev_bipush hX dX2_menOnBoard_16 (v := 99) (by decide +kernel) ?_
      refine ev_icmp_eq (tgt := 24) hX dX2_menOnBoard_18 (by decide) ?_ ?_
      · refine ev_iinc hX dX2_menOnBoard_24 rfl (v := 1) (by decide +kernel) (L' := [some (.inr (.inl 1)), some (.inl x1), some (.inl (x2 + 1))]) rfl ?_
        refine ev_goto (tgt := 4) hX dX2_menOnBoard_27 (by decide) ?_
        refine ev_mask [true, true, true] (L' := [some (.inr (.inl 1)), some (.inl x1), some (.inl (x2 + 1))]) rfl rfl ?_
        exact ih x1 (x2 + 1) w
      · refine ev_iinc hX dX2_menOnBoard_21 rfl (v := 1) (by decide +kernel) (L' := [some (.inr (.inl 1)), some (.inl (x1 + 1)), some (.inl x2)]) rfl ?_
        refine ev_iinc hX dX2_menOnBoard_24 rfl (v := 1) (by decide +kernel) (L' := [some (.inr (.inl 1)), some (.inl (x1 + 1)), some (.inl (x2 + 1))]) rfl ?_
        refine ev_goto (tgt := 4) hX dX2_menOnBoard_27 (by decide) ?_
        refine ev_mask [true, true, true] (L' := [some (.inr (.inl 1)), some (.inl (x1 + 1)), some (.inl (x2 + 1))]) rfl rfl ?_
        exact ih (x1 + 1) (x2 + 1) w
set_option maxHeartbeats 4000000 in
set_option maxRecDepth 100000 in
theorem c_X2_menOnBoard (l : Launch) (D : va_G) (cI cC : ClassId) (td : Nat → Option Nat) (w : mvW) : ∀ z, f_X2_menOnBoard w = some z → mv_Ci l D vwCl cI cC tbX td yX2_menOnBoard wsX2_menOnBoard rm_X2_menOnBoard shX w [.inr (.inl 1)] z := by
  refine mv_starti (own := RX2) rfl (by decide) rfl rfl (L0 := [some (.inr (.inl 1)), none, none]) rfl (fun p e s m args below meth c A ad0 hX hr => ?_)
  rw [f_X2_menOnBoard]
  refine ev_iconst hX dX2_menOnBoard_0 (v := 0) (by decide +kernel) ?_
  refine ev_istore_n hX dX2_menOnBoard_1 rfl (L' := [some (.inr (.inl 1)), some (.inl 0), none]) rfl ?_
  refine ev_iconst hX dX2_menOnBoard_2 (v := 0) (by decide +kernel) ?_
  refine ev_istore_n hX dX2_menOnBoard_3 rfl (L' := [some (.inr (.inl 1)), some (.inl 0), some (.inl 0)]) rfl ?_
  refine ev_mask [true, true, true] (L' := [some (.inr (.inl 1)), some (.inl 0), some (.inl 0)]) rfl rfl ?_
  exact e_X2_menOnBoard_4 hX hr 4096 0 0 w
def rm_X4_isSide : Room := { frames := 0, cells := 0, slots := 0, locals := 0 }
set_option maxHeartbeats 4000000 in
set_option maxRecDepth 100000 in
theorem c_X4_isSide (l : Launch) (D : va_G) (cI cC : ClassId) (td : Nat → Option Nat) (a0 : Int32) (w : mvW) : ∀ z, f_X4_isSide a0 w = some z → mv_Ci l D vwCl cI cC tbX td yX4_isSide wsX4_isSide rm_X4_isSide shX w [.inl a0] z := by
  refine mv_starti (own := RX4) rfl (by decide) rfl rfl (L0 := [some (.inl a0)]) rfl (fun p e s m args below meth c A ad0 hX hr => ?_)
  rw [f_X4_isSide]
  refine ev_iload_n hX dX4_isSide_0 rfl ?_
  refine ev_if_lt (tgt := 13) hX dX4_isSide_1 (by decide) ?_ ?_
  · refine ev_iconst hX dX4_isSide_13 (v := 0) (by decide +kernel) ?_
    exact ev_iretz0 hX hr dX4_isSide_14
  · refine ev_iload_n hX dX4_isSide_4 rfl ?_
    refine ev_iconst hX dX4_isSide_5 (v := 2) (by decide +kernel) ?_
    refine ev_icmp_ge (tgt := 13) hX dX4_isSide_6 (by decide) ?_ ?_
    · refine ev_iconst hX dX4_isSide_13 (v := 0) (by decide +kernel) ?_
      exact ev_iretz0 hX hr dX4_isSide_14
    · refine ev_iconst hX dX4_isSide_9 (v := 1) (by decide +kernel) ?_
      refine ev_goto (tgt := 14) hX dX4_isSide_10 (by decide) ?_
      exact ev_iretz1 hX hr dX4_isSide_14
def rm_X4_isHandKind : Room := { frames := 0, cells := 0, slots := 0, locals := 0 }
set_option maxHeartbeats 4000000 in
set_option maxRecDepth 100000 in
theorem c_X4_isHandKind (l : Launch) (D : va_G) (cI cC : ClassId) (td : Nat → Option Nat) (a0 : Int32) (w : mvW) : ∀ z, f_X4_isHandKind a0 w = some z → mv_Ci l D vwCl cI cC tbX td yX4_isHandKind wsX4_isHandKind rm_X4_isHandKind shX w [.inl a0] z := by
  refine mv_starti (own := RX4) rfl (by decide) rfl rfl (L0 := [some (.inl a0)]) rfl (fun p e s m args below meth c A ad0 hX hr => ?_)
  rw [f_X4_isHandKind]
  refine ev_iload_n hX dX4_isHandKind_0 rfl ?_
  refine ev_iconst hX dX4_isHandKind_1 (v := 1) (by decide +kernel) ?_
  refine ev_icmp_lt (tgt := 14) hX dX4_isHandKind_2 (by decide) ?_ ?_
  · refine ev_iconst hX dX4_isHandKind_14 (v := 0) (by decide +kernel) ?_
    exact ev_iretz0 hX hr dX4_isHandKind_15
  · refine ev_iload_n hX dX4_isHandKind_5 rfl ?_
    refine ev_iconst hX dX4_isHandKind_6 (v := 5) (by decide +kernel) ?_
    refine ev_icmp_gt (tgt := 14) hX dX4_isHandKind_7 (by decide) ?_ ?_
    · refine ev_iconst hX dX4_isHandKind_14 (v := 0) (by decide +kernel) ?_
      exact ev_iretz0 hX hr dX4_isHandKind_15
    · refine ev_iconst hX dX4_isHandKind_10 (v := 1) (by decide +kernel) ?_
      refine ev_goto (tgt := 15) hX dX4_isHandKind_11 (by decide) ?_
      exact ev_iretz1 hX hr dX4_isHandKind_15
def rm_X2_inHand : Room := { frames := 1, cells := 0, slots := 0, locals := 20 }
set_option maxRecDepth 20000 in
theorem in_X2_inHand_X2 : ∀ w ∈ u_ws RX2 TX2 2, w ∈ wsX2_inHand := by decide +kernel
set_option maxHeartbeats 4000000 in
set_option maxRecDepth 100000 in
theorem c_X2_inHand (l : Launch) (D : va_G) (cI cC : ClassId) (td : Nat → Option Nat) (a1 : Int32) (a2 : Int32) (w : mvW) : ∀ z, f_X2_inHand a1 a2 w = some z → mv_Ci l D vwCl cI cC tbX td yX2_inHand wsX2_inHand rm_X2_inHand shX w [.inr (.inl 1), .inl a1, .inl a2] z := by
  refine mv_starti (own := RX2) rfl (by decide) rfl rfl (L0 := [some (.inr (.inl 1)), some (.inl a1), some (.inl a2)]) rfl (fun p e s m args below meth c A ad0 hX hr => ?_)
  rw [f_X2_inHand]
  refine ev_iload_n hX dX2_inHand_0 rfl ?_
  refine ev_callNi hX (As := [.inl a1]) (rm := rm_X4_isSide) (c_X4_isSide l D cI cC td a1 w) ⟨va_cnB (host := "FiveShogi") 1 hX.ts gX2_inHand_X4_isSide_n38 rfl rfl rfl (hX.sta.2.1 (_, 38, _, _) (List.mem_of_getElem? (i := 9) rfl)) (hX.ts _ (show Cond.initialized RX4 ∈ _ by decide +kernel)) (by decide +kernel) ⟨Nat.le_of_ble_eq_true rfl, Nat.le_of_ble_eq_true rfl⟩, hX.ts _ (show Cond.static yX4_isSide ∈ _ by decide +kernel), trivial⟩ rfl rfl rfl ⟨Nat.le_of_ble_eq_true rfl, Nat.le_of_ble_eq_true rfl⟩ dX2_inHand_1 rfl (fun z1 hz1 => ?_)
  refine ev_if_eq (tgt := 31) hX dX2_inHand_4 (by decide) ?_ ?_
  · refine ev_iconst hX dX2_inHand_31 (v := 0) (by decide +kernel) ?_
    exact ev_ireti hX hr dX2_inHand_32
  · refine ev_iload_n hX dX2_inHand_7 rfl ?_
    refine ev_callNi hX (As := [.inl a2]) (rm := rm_X4_isHandKind) (c_X4_isHandKind l D cI cC td a2 z1.2) ⟨va_cnB (host := "FiveShogi") 1 hX.ts gX2_inHand_X4_isHandKind_n55 rfl rfl rfl (hX.sta.2.1 (_, 55, _, _) (List.mem_of_getElem? (i := 10) rfl)) (hX.ts _ (show Cond.initialized RX4 ∈ _ by decide +kernel)) (by decide +kernel) ⟨Nat.le_of_ble_eq_true rfl, Nat.le_of_ble_eq_true rfl⟩, hX.ts _ (show Cond.static yX4_isHandKind ∈ _ by decide +kernel), trivial⟩ rfl rfl rfl ⟨Nat.le_of_ble_eq_true rfl, Nat.le_of_ble_eq_true rfl⟩ dX2_inHand_8 rfl (fun z2 hz2 => ?_)
    refine ev_if_eq (tgt := 31) hX dX2_inHand_11 (by decide) ?_ ?_
    · refine ev_iconst hX dX2_inHand_31 (v := 0) (by decide +kernel) ?_
      exact ev_ireti hX hr dX2_inHand_32
    · refine ev_aload_n hX dX2_inHand_14 rfl ?_
      refine ev_getr (k := 0) hX (T := TX2) in_X2_inHand_X2 rfl rfl rfl (show Cond.fieldLink RX2 11 "FiveShogi$Position" "state" "[I" ∈ _ by decide +kernel) rfl dX2_inHand_15 ?_
      refine ev_bipush hX dX2_inHand_18 (v := 25) (by decide +kernel) ?_
      refine ev_iload_n hX dX2_inHand_20 rfl ?_
      refine ev_bipush hX dX2_inHand_21 (v := 6) (by decide +kernel) ?_
      refine ev_imul hX dX2_inHand_23 ?_
      refine ev_iadd hX dX2_inHand_24 ?_
      refine ev_iload_n hX dX2_inHand_25 rfl ?_
      refine ev_iadd hX dX2_inHand_26 ?_
      refine ev_iald hX rfl dX2_inHand_27 (fun j3 => ?_)
      refine ev_goto (tgt := 32) hX dX2_inHand_28 (by decide) ?_
      exact ev_ireti hX hr dX2_inHand_32
def rm_X2_menInHand : Room := { frames := 2, cells := 0, slots := 0, locals := 42 }
set_option maxHeartbeats 4000000 in
set_option maxRecDepth 100000 in
theorem e_X2_menInHand_4 (hX : mv_X p s m args meth c D vwCl cI cC tbX td A cX2_menInHand 4 RX2 wsX2_menInHand) (hr : meth.sig.returnType = (some .int)) : ∀ (n : Nat) (x1 : Int32) (x2 : Int32) (x3 : Int32) (w : mvW), EV p l e (headSpec wsX2_menInHand rm_X2_menInHand).room s m args below meth c D vwCl cI cC td A (fun a => a = ad0) (mv_Qi below args s D vwCl cI cC shX ad0 A) 0 0 shX [some (.inr (.inl 1)), some (.inl x1), some (.inl x2), some (.inl x3)] [] 4 w (f_X2_menInHand_4 n x1 x2 x3 w) := by
  intro n
  induction n with
  | zero => intro x1 x2 x3 w; exact ev_none
  | succ n ih =>
    intro x1 x2 x3 w
    rw [f_X2_menInHand_4]
    refine ev_iload_n hX dX2_menInHand_4 rfl ?_
    refine ev_iconst hX dX2_menInHand_5 (v := 5) (by decide +kernel) ?_
    refine ev_icmp_gt (tgt := 24) hX dX2_menInHand_6 (by decide) ?_ ?_
    · refine ev_iload_n hX dX2_menInHand_24 rfl ?_
      exact ev_ireti hX hr dX2_menInHand_25
    · refine ev_iload_n hX dX2_menInHand_9 rfl ?_
      refine ev_aload_n hX dX2_menInHand_10 rfl ?_
      refine ev_iload_n hX dX2_menInHand_11 rfl ?_
      refine ev_iload_n hX dX2_menInHand_12 rfl ?_
      refine ev_callVi hX (k0 := 1) (As := [.inl x1, .inl x3]) (rm := rm_X2_inHand) (c_X2_inHand l D cI cC td x1 x3 w) (cwV 2 hX.ts gX2_menInHand_X2_inHand rfl rfl rfl (by decide +kernel) ⟨Nat.le_of_ble_eq_true rfl, Nat.le_of_ble_eq_true rfl⟩) rfl rfl rfl rfl rfl rfl ⟨Nat.le_of_ble_eq_true rfl, Nat.le_of_ble_eq_true rfl⟩ dX2_menInHand_13 rfl (fun z1 hz1 => ?_)
      refine ev_iadd hX dX2_menInHand_16 ?_
      refine ev_istore_n hX dX2_menInHand_17 rfl (L' := [some (.inr (.inl 1)), some (.inl x1), some (.inl (x2 + z1.1)), some (.inl x3)]) rfl ?_
      refine ev_iinc hX dX2_menInHand_18 rfl (v := 1) (by decide +kernel) (L' := [some (.inr (.inl 1)), some (.inl x1), some (.inl (x2 + z1.1)), some (.inl (x3 + 1))]) rfl ?_
      refine ev_goto (tgt := 4) hX dX2_menInHand_21 (by decide) ?_
      refine ev_mask [true, true, true, true] (L' := [some (.inr (.inl 1)), some (.inl x1), some (.inl (x2 + z1.1)), some (.inl (x3 + 1))]) rfl rfl ?_
      exact ih x1 (x2 + z1.1) (x3 + 1) z1.2
set_option maxHeartbeats 4000000 in
set_option maxRecDepth 100000 in
theorem c_X2_menInHand (l : Launch) (D : va_G) (cI cC : ClassId) (td : Nat → Option Nat) (a1 : Int32) (w : mvW) : ∀ z, f_X2_menInHand a1 w = some z → mv_Ci l D vwCl cI cC tbX td yX2_menInHand wsX2_menInHand rm_X2_menInHand shX w [.inr (.inl 1), .inl a1] z := by
  refine mv_starti (own := RX2) rfl (by decide) rfl rfl (L0 := [some (.inr (.inl 1)), some (.inl a1), none, none]) rfl (fun p e s m args below meth c A ad0 hX hr => ?_)
  rw [f_X2_menInHand]
  refine ev_iconst hX dX2_menInHand_0 (v := 0) (by decide +kernel) ?_
  refine ev_istore_n hX dX2_menInHand_1 rfl (L' := [some (.inr (.inl 1)), some (.inl a1), some (.inl 0), none]) rfl ?_
  refine ev_iconst hX dX2_menInHand_2 (v := 1) (by decide +kernel) ?_
  refine ev_istore_n hX dX2_menInHand_3 rfl (L' := [some (.inr (.inl 1)), some (.inl a1), some (.inl 0), some (.inl 1)]) rfl ?_
  refine ev_mask [true, true, true, true] (L' := [some (.inr (.inl 1)), some (.inl a1), some (.inl 0), some (.inl 1)]) rfl rfl ?_
  exact e_X2_menInHand_4 hX hr 4096 a1 0 1 w
def rm_X2_kingOf : Room := { frames := 1, cells := 0, slots := 0, locals := 20 }
set_option maxRecDepth 20000 in
theorem in_X2_kingOf_X2 : ∀ w ∈ u_ws RX2 TX2 2, w ∈ wsX2_kingOf := by decide +kernel
set_option maxHeartbeats 4000000 in
set_option maxRecDepth 100000 in
theorem c_X2_kingOf (l : Launch) (D : va_G) (cI cC : ClassId) (td : Nat → Option Nat) (a1 : Int32) (w : mvW) : ∀ z, f_X2_kingOf a1 w = some z → mv_Ci l D vwCl cI cC tbX td yX2_kingOf wsX2_kingOf rm_X2_kingOf shX w [.inr (.inl 1), .inl a1] z := by
  refine mv_starti (own := RX2) rfl (by decide) rfl rfl (L0 := [some (.inr (.inl 1)), some (.inl a1)]) rfl (fun p e s m args below meth c A ad0 hX hr => ?_)
  rw [f_X2_kingOf]
  refine ev_iload_n hX dX2_kingOf_0 rfl ?_
  refine ev_callNi hX (As := [.inl a1]) (rm := rm_X4_isSide) (c_X4_isSide l D cI cC td a1 w) ⟨va_cnB (host := "FiveShogi") 1 hX.ts gX2_kingOf_X4_isSide_n38 rfl rfl rfl (hX.sta.2.1 (_, 38, _, _) (List.mem_of_getElem? (i := 9) rfl)) (hX.ts _ (show Cond.initialized RX4 ∈ _ by decide +kernel)) (by decide +kernel) ⟨Nat.le_of_ble_eq_true rfl, Nat.le_of_ble_eq_true rfl⟩, hX.ts _ (show Cond.static yX4_isSide ∈ _ by decide +kernel), trivial⟩ rfl rfl rfl ⟨Nat.le_of_ble_eq_true rfl, Nat.le_of_ble_eq_true rfl⟩ dX2_kingOf_1 rfl (fun z1 hz1 => ?_)
  refine ev_if_eq (tgt := 19) hX dX2_kingOf_4 (by decide) ?_ ?_
  · refine ev_iconst hX dX2_kingOf_19 (v := (-1)) (by decide +kernel) ?_
    exact ev_ireti hX hr dX2_kingOf_20
  · refine ev_aload_n hX dX2_kingOf_7 rfl ?_
    refine ev_getr (k := 0) hX (T := TX2) in_X2_kingOf_X2 rfl rfl rfl (show Cond.fieldLink RX2 11 "FiveShogi$Position" "state" "[I" ∈ _ by decide +kernel) rfl dX2_kingOf_8 ?_
    refine ev_bipush hX dX2_kingOf_11 (v := 37) (by decide +kernel) ?_
    refine ev_iload_n hX dX2_kingOf_13 rfl ?_
    refine ev_iadd hX dX2_kingOf_14 ?_
    refine ev_iald hX rfl dX2_kingOf_15 (fun j2 => ?_)
    refine ev_goto (tgt := 20) hX dX2_kingOf_16 (by decide) ?_
    exact ev_ireti hX hr dX2_kingOf_20
def rm_X2_countAttackers : Room := { frames := 0, cells := 0, slots := 0, locals := 0 }
set_option maxRecDepth 20000 in
theorem in_X2_countAttackers_X2 : ∀ w ∈ u_ws RX2 TX2 2, w ∈ wsX2_countAttackers := by decide +kernel
set_option maxHeartbeats 4000000 in
set_option maxRecDepth 100000 in
theorem e_X2_countAttackers_140 (hX : mv_X p s m args meth c D vwCl cI cC tbX td A cX2_countAttackers 11 RX2 wsX2_countAttackers) (hr : meth.sig.returnType = (some .int)) (k5 : Int32 → Int32 → Int32 → Int32 → mvW → Option (Int32 × mvW)) (hk5 : ∀ (x1 : Int32) (x2 : Int32) (x3 : Int32) (x4 : Int32) (w : mvW), EV p l e (headSpec wsX2_countAttackers rm_X2_countAttackers).room s m args below meth c D vwCl cI cC td A (fun a => a = ad0) (mv_Qi below args s D vwCl cI cC shX ad0 A) 0 0 shX [some (.inr (.inl 1)), some (.inl x1), some (.inl x2), some (.inl x3), some (.inl x4), none, none, none, none, none, none] [] 5 w (k5 x1 x2 x3 x4 w)) (x1 : Int32) (x2 : Int32) (x3 : Int32) (x4 : Int32) (x5 : Int32) (x9 : Int32) (s0 : Int32) (w : mvW) : EV p l e (headSpec wsX2_countAttackers rm_X2_countAttackers).room s m args below meth c D vwCl cI cC td A (fun a => a = ad0) (mv_Qi below args s D vwCl cI cC shX ad0 A) 0 0 shX [some (.inr (.inl 1)), some (.inl x1), some (.inl x2), some (.inl x3), some (.inl x4), some (.inl x5), none, none, none, some (.inl x9), none] [.inl s0] 140 w (f_X2_countAttackers_140 k5 x1 x2 x3 x4 x5 x9 s0 w) := by
  rw [f_X2_countAttackers_140]
  refine ev_istore hX dX2_countAttackers_140 rfl (L' := [some (.inr (.inl 1)), some (.inl x1), some (.inl x2), some (.inl x3), some (.inl x4), some (.inl x5), none, none, none, some (.inl x9), some (.inl s0)]) rfl ?_
  refine ev_iload hX dX2_countAttackers_142 rfl ?_
  refine ev_bipush hX dX2_countAttackers_144 (v := 10) (by decide +kernel) ?_
  refine ev_idiv hX dX2_countAttackers_146 (by decide) ?_
  refine ev_iload_n hX dX2_countAttackers_147 rfl ?_
  refine ev_icmp_ne (tgt := 173) hX dX2_countAttackers_148 (by decide) ?_ ?_
  · refine ev_iinc hX dX2_countAttackers_173 rfl (v := 1) (by decide +kernel) (L' := [some (.inr (.inl 1)), some (.inl x1), some (.inl x2), some (.inl x3), some (.inl (x4 + 1)), some (.inl x5), none, none, none, some (.inl x9), some (.inl s0)]) rfl ?_
    refine ev_goto (tgt := 5) hX dX2_countAttackers_176 (by decide) ?_
    refine ev_mask [true, true, true, true, true, false, false, false, false, false, false] (L' := [some (.inr (.inl 1)), some (.inl x1), some (.inl x2), some (.inl x3), some (.inl (x4 + 1)), none, none, none, none, none, none]) rfl rfl ?_
    exact hk5 x1 x2 x3 (x4 + 1) w
  · refine ev_iload hX dX2_countAttackers_151 rfl ?_
    refine ev_iload hX dX2_countAttackers_153 rfl ?_
    refine ev_ishr hX dX2_countAttackers_155 ?_
    refine ev_iconst hX dX2_countAttackers_156 (v := 1) (by decide +kernel) ?_
    refine ev_iand hX dX2_countAttackers_157 ?_
    refine ev_if_eq (tgt := 173) hX dX2_countAttackers_158 (by decide) ?_ ?_
    · refine ev_iinc hX dX2_countAttackers_173 rfl (v := 1) (by decide +kernel) (L' := [some (.inr (.inl 1)), some (.inl x1), some (.inl x2), some (.inl x3), some (.inl (x4 + 1)), some (.inl x5), none, none, none, some (.inl x9), some (.inl s0)]) rfl ?_
      refine ev_goto (tgt := 5) hX dX2_countAttackers_176 (by decide) ?_
      refine ev_mask [true, true, true, true, true, false, false, false, false, false, false] (L' := [some (.inr (.inl 1)), some (.inl x1), some (.inl x2), some (.inl x3), some (.inl (x4 + 1)), none, none, none, none, none, none]) rfl rfl ?_
      exact hk5 x1 x2 x3 (x4 + 1) w
    · refine ev_iinc hX dX2_countAttackers_161 rfl (v := 1) (by decide +kernel) (L' := [some (.inr (.inl 1)), some (.inl x1), some (.inl x2), some (.inl (x3 + 1)), some (.inl x4), some (.inl x5), none, none, none, some (.inl x9), some (.inl s0)]) rfl ?_
      refine ev_goto (tgt := 173) hX dX2_countAttackers_164 (by decide) ?_
      refine ev_iinc hX dX2_countAttackers_173 rfl (v := 1) (by decide +kernel) (L' := [some (.inr (.inl 1)), some (.inl x1), some (.inl x2), some (.inl (x3 + 1)), some (.inl (x4 + 1)), some (.inl x5), none, none, none, some (.inl x9), some (.inl s0)]) rfl ?_
      refine ev_goto (tgt := 5) hX dX2_countAttackers_176 (by decide) ?_
      refine ev_mask [true, true, true, true, true, false, false, false, false, false, false] (L' := [some (.inr (.inl 1)), some (.inl x1), some (.inl x2), some (.inl (x3 + 1)), some (.inl (x4 + 1)), none, none, none, none, none, none]) rfl rfl ?_
      exact hk5 x1 x2 (x3 + 1) (x4 + 1) w
set_option maxHeartbeats 4000000 in
set_option maxRecDepth 100000 in
theorem e_X2_countAttackers_67 (hX : mv_X p s m args meth c D vwCl cI cC tbX td A cX2_countAttackers 11 RX2 wsX2_countAttackers) (hr : meth.sig.returnType = (some .int)) (k5 : Int32 → Int32 → Int32 → Int32 → mvW → Option (Int32 × mvW)) (hk5 : ∀ (x1 : Int32) (x2 : Int32) (x3 : Int32) (x4 : Int32) (w : mvW), EV p l e (headSpec wsX2_countAttackers rm_X2_countAttackers).room s m args below meth c D vwCl cI cC td A (fun a => a = ad0) (mv_Qi below args s D vwCl cI cC shX ad0 A) 0 0 shX [some (.inr (.inl 1)), some (.inl x1), some (.inl x2), some (.inl x3), some (.inl x4), none, none, none, none, none, none] [] 5 w (k5 x1 x2 x3 x4 w)) (k25 : Int32 → Int32 → Int32 → Int32 → Int32 → Int32 → Int32 → mvW → Option (Int32 × mvW)) (hk25 : ∀ (x1 : Int32) (x2 : Int32) (x3 : Int32) (x4 : Int32) (x5 : Int32) (x6 : Int32) (x7 : Int32) (w : mvW), EV p l e (headSpec wsX2_countAttackers rm_X2_countAttackers).room s m args below meth c D vwCl cI cC td A (fun a => a = ad0) (mv_Qi below args s D vwCl cI cC shX ad0 A) 0 0 shX [some (.inr (.inl 1)), some (.inl x1), some (.inl x2), some (.inl x3), some (.inl x4), some (.inl x5), some (.inl x6), some (.inl x7), none, none, none] [] 25 w (k25 x1 x2 x3 x4 x5 x6 x7 w)) (x1 : Int32) (x2 : Int32) (x3 : Int32) (x4 : Int32) (x5 : Int32) (x7 : Int32) (s0 : Int32) (w : mvW) : EV p l e (headSpec wsX2_countAttackers rm_X2_countAttackers).room s m args below meth c D vwCl cI cC td A (fun a => a = ad0) (mv_Qi below args s D vwCl cI cC shX ad0 A) 0 0 shX [some (.inr (.inl 1)), some (.inl x1), some (.inl x2), some (.inl x3), some (.inl x4), some (.inl x5), none, some (.inl x7), none, none, none] [.inl s0] 67 w (f_X2_countAttackers_67 k5 k25 x1 x2 x3 x4 x5 x7 s0 w) := by
  rw [f_X2_countAttackers_67]
  refine ev_istore hX dX2_countAttackers_67 rfl (L' := [some (.inr (.inl 1)), some (.inl x1), some (.inl x2), some (.inl x3), some (.inl x4), some (.inl x5), some (.inl s0), some (.inl x7), none, none, none]) rfl ?_
  refine ev_iload hX dX2_countAttackers_69 rfl ?_
  refine ev_if_lt (tgt := 173) hX dX2_countAttackers_71 (by decide) ?_ ?_
  · refine ev_iinc hX dX2_countAttackers_173 rfl (v := 1) (by decide +kernel) (L' := [some (.inr (.inl 1)), some (.inl x1), some (.inl x2), some (.inl x3), some (.inl (x4 + 1)), some (.inl x5), some (.inl s0), some (.inl x7), none, none, none]) rfl ?_
    refine ev_goto (tgt := 5) hX dX2_countAttackers_176 (by decide) ?_
    refine ev_mask [true, true, true, true, true, false, false, false, false, false, false] (L' := [some (.inr (.inl 1)), some (.inl x1), some (.inl x2), some (.inl x3), some (.inl (x4 + 1)), none, none, none, none, none, none]) rfl rfl ?_
    exact hk5 x1 x2 x3 (x4 + 1) w
  · refine ev_iload hX dX2_countAttackers_74 rfl ?_
    refine ev_bipush hX dX2_countAttackers_76 (v := 25) (by decide +kernel) ?_
    refine ev_icmp_lt (tgt := 84) hX dX2_countAttackers_78 (by decide) ?_ ?_
    · refine ev_aload_n hX dX2_countAttackers_84 rfl ?_
      refine ev_getr (k := 0) hX (T := TX2) in_X2_countAttackers_X2 rfl rfl rfl (show Cond.fieldLink RX2 11 "FiveShogi$Position" "state" "[I" ∈ _ by decide +kernel) rfl dX2_countAttackers_85 ?_
      refine ev_iload hX dX2_countAttackers_88 rfl ?_
      refine ev_iald hX rfl dX2_countAttackers_90 (fun j2 => ?_)
      refine ev_istore hX dX2_countAttackers_91 rfl (L' := [some (.inr (.inl 1)), some (.inl x1), some (.inl x2), some (.inl x3), some (.inl x4), some (.inl x5), some (.inl s0), some (.inl x7), none, some (.inl (w 2 j2)), none]) rfl ?_
      refine ev_iload hX dX2_countAttackers_93 rfl ?_
      refine ev_if_lt (tgt := 167) hX dX2_countAttackers_95 (by decide) ?_ ?_
      · refine ev_iinc hX dX2_countAttackers_167 rfl (v := 1) (by decide +kernel) (L' := [some (.inr (.inl 1)), some (.inl x1), some (.inl x2), some (.inl x3), some (.inl x4), some (.inl x5), some (.inl s0), some (.inl (x7 + 1)), none, some (.inl (w 2 j2)), none]) rfl ?_
        refine ev_goto (tgt := 25) hX dX2_countAttackers_170 (by decide) ?_
        refine ev_mask [true, true, true, true, true, true, true, true, false, false, false] (L' := [some (.inr (.inl 1)), some (.inl x1), some (.inl x2), some (.inl x3), some (.inl x4), some (.inl x5), some (.inl s0), some (.inl (x7 + 1)), none, none, none]) rfl rfl ?_
        exact hk25 x1 x2 x3 x4 x5 s0 (x7 + 1) w
      · refine ev_iload hX dX2_countAttackers_98 rfl ?_
        refine ev_getsN (j := 2) (host := "FiveShogi") hX rfl (List.mem_of_getElem? (i := 1) rfl) dX2_countAttackers_100 ?_
        refine ev_tlen hX rfl (v := 20) (by decide +kernel) dX2_countAttackers_103 ?_
        refine ev_icmp_ge (tgt := 167) hX dX2_countAttackers_104 (by decide) ?_ ?_
        · refine ev_iinc hX dX2_countAttackers_167 rfl (v := 1) (by decide +kernel) (L' := [some (.inr (.inl 1)), some (.inl x1), some (.inl x2), some (.inl x3), some (.inl x4), some (.inl x5), some (.inl s0), some (.inl (x7 + 1)), none, some (.inl (w 2 j2)), none]) rfl ?_
          refine ev_goto (tgt := 25) hX dX2_countAttackers_170 (by decide) ?_
          refine ev_mask [true, true, true, true, true, true, true, true, false, false, false] (L' := [some (.inr (.inl 1)), some (.inl x1), some (.inl x2), some (.inl x3), some (.inl x4), some (.inl x5), some (.inl s0), some (.inl (x7 + 1)), none, none, none]) rfl rfl ?_
          exact hk25 x1 x2 x3 x4 x5 s0 (x7 + 1) w
        · refine ev_iload hX dX2_countAttackers_107 rfl ?_
          refine ev_getsN (j := 3) (host := "FiveShogi") hX rfl (List.mem_of_getElem? (i := 2) rfl) dX2_countAttackers_109 ?_
          refine ev_tlen hX rfl (v := 20) (by decide +kernel) dX2_countAttackers_112 ?_
          refine ev_icmp_lt (tgt := 119) hX dX2_countAttackers_113 (by decide) ?_ ?_
          · refine ev_iload hX dX2_countAttackers_119 rfl ?_
            refine ev_iconst hX dX2_countAttackers_121 (v := 1) (by decide +kernel) ?_
            refine ev_icmp_ne (tgt := 134) hX dX2_countAttackers_122 (by decide) ?_ ?_
            · refine ev_getsN (j := 3) (host := "FiveShogi") hX rfl (List.mem_of_getElem? (i := 2) rfl) dX2_countAttackers_134 ?_
              refine ev_iload hX dX2_countAttackers_137 rfl ?_
              refine ev_tald (xs := tb_SLIDES) hX rfl dX2_countAttackers_139 (fun j3 => ?_)
              refine ev_mask [true, true, true, true, true, true, false, false, false, true, false] (L' := [some (.inr (.inl 1)), some (.inl x1), some (.inl x2), some (.inl x3), some (.inl x4), some (.inl x5), none, none, none, some (.inl (w 2 j2)), none]) rfl rfl ?_
              exact e_X2_countAttackers_140 hX hr k5 hk5 x1 x2 x3 x4 x5 (w 2 j2) (tb_SLIDES.getD j3 0) w
            · refine ev_getsN (j := 2) (host := "FiveShogi") hX rfl (List.mem_of_getElem? (i := 1) rfl) dX2_countAttackers_125 ?_
              refine ev_iload hX dX2_countAttackers_128 rfl ?_
              refine ev_tald (xs := tb_STEPS) hX rfl dX2_countAttackers_130 (fun j4 => ?_)
              refine ev_goto (tgt := 140) hX dX2_countAttackers_131 (by decide) ?_
              refine ev_mask [true, true, true, true, true, true, false, false, false, true, false] (L' := [some (.inr (.inl 1)), some (.inl x1), some (.inl x2), some (.inl x3), some (.inl x4), some (.inl x5), none, none, none, some (.inl (w 2 j2)), none]) rfl rfl ?_
              exact e_X2_countAttackers_140 hX hr k5 hk5 x1 x2 x3 x4 x5 (w 2 j2) (tb_STEPS.getD j4 0) w
          · refine ev_goto (tgt := 167) hX dX2_countAttackers_116 (by decide) ?_
            refine ev_iinc hX dX2_countAttackers_167 rfl (v := 1) (by decide +kernel) (L' := [some (.inr (.inl 1)), some (.inl x1), some (.inl x2), some (.inl x3), some (.inl x4), some (.inl x5), some (.inl s0), some (.inl (x7 + 1)), none, some (.inl (w 2 j2)), none]) rfl ?_
            refine ev_goto (tgt := 25) hX dX2_countAttackers_170 (by decide) ?_
            refine ev_mask [true, true, true, true, true, true, true, true, false, false, false] (L' := [some (.inr (.inl 1)), some (.inl x1), some (.inl x2), some (.inl x3), some (.inl x4), some (.inl x5), some (.inl s0), some (.inl (x7 + 1)), none, none, none]) rfl rfl ?_
            exact hk25 x1 x2 x3 x4 x5 s0 (x7 + 1) w
    · refine ev_goto (tgt := 173) hX dX2_countAttackers_81 (by decide) ?_
      refine ev_iinc hX dX2_countAttackers_173 rfl (v := 1) (by decide +kernel) (L' := [some (.inr (.inl 1)), some (.inl x1), some (.inl x2), some (.inl x3), some (.inl (x4 + 1)), some (.inl x5), some (.inl s0), some (.inl x7), none, none, none]) rfl ?_
      refine ev_goto (tgt := 5) hX dX2_countAttackers_176 (by decide) ?_
      refine ev_mask [true, true, true, true, true, false, false, false, false, false, false] (L' := [some (.inr (.inl 1)), some (.inl x1), some (.inl x2), some (.inl x3), some (.inl (x4 + 1)), none, none, none, none, none, none]) rfl rfl ?_
      exact hk5 x1 x2 x3 (x4 + 1) w
set_option maxHeartbeats 4000000 in
set_option maxRecDepth 100000 in
theorem e_X2_countAttackers_25 (hX : mv_X p s m args meth c D vwCl cI cC tbX td A cX2_countAttackers 11 RX2 wsX2_countAttackers) (hr : meth.sig.returnType = (some .int)) (k5 : Int32 → Int32 → Int32 → Int32 → mvW → Option (Int32 × mvW)) (hk5 : ∀ (x1 : Int32) (x2 : Int32) (x3 : Int32) (x4 : Int32) (w : mvW), EV p l e (headSpec wsX2_countAttackers rm_X2_countAttackers).room s m args below meth c D vwCl cI cC td A (fun a => a = ad0) (mv_Qi below args s D vwCl cI cC shX ad0 A) 0 0 shX [some (.inr (.inl 1)), some (.inl x1), some (.inl x2), some (.inl x3), some (.inl x4), none, none, none, none, none, none] [] 5 w (k5 x1 x2 x3 x4 w)) : ∀ (n : Nat) (x1 : Int32) (x2 : Int32) (x3 : Int32) (x4 : Int32) (x5 : Int32) (x6 : Int32) (x7 : Int32) (w : mvW), EV p l e (headSpec wsX2_countAttackers rm_X2_countAttackers).room s m args below meth c D vwCl cI cC td A (fun a => a = ad0) (mv_Qi below args s D vwCl cI cC shX ad0 A) 0 0 shX [some (.inr (.inl 1)), some (.inl x1), some (.inl x2), some (.inl x3), some (.inl x4), some (.inl x5), some (.inl x6), some (.inl x7), none, none, none] [] 25 w (f_X2_countAttackers_25 k5 n x1 x2 x3 x4 x5 x6 x7 w) := by
  intro n
  induction n with
  | zero => intro x1 x2 x3 x4 x5 x6 x7 w; exact ev_none
  | succ n ih =>
    intro x1 x2 x3 x4 x5 x6 x7 w
    rw [f_X2_countAttackers_25]
    refine ev_iload hX dX2_countAttackers_25 rfl ?_
    refine ev_iconst hX dX2_countAttackers_27 (v := 5) (by decide +kernel) ?_
    refine ev_icmp_ge (tgt := 173) hX dX2_countAttackers_28 (by decide) ?_ ?_
    · refine ev_iinc hX dX2_countAttackers_173 rfl (v := 1) (by decide +kernel) (L' := [some (.inr (.inl 1)), some (.inl x1), some (.inl x2), some (.inl x3), some (.inl (x4 + 1)), some (.inl x5), some (.inl x6), some (.inl x7), none, none, none]) rfl ?_
      refine ev_goto (tgt := 5) hX dX2_countAttackers_176 (by decide) ?_
      refine ev_mask [true, true, true, true, true, false, false, false, false, false, false] (L' := [some (.inr (.inl 1)), some (.inl x1), some (.inl x2), some (.inl x3), some (.inl (x4 + 1)), none, none, none, none, none, none]) rfl rfl ?_
      exact hk5 x1 x2 x3 (x4 + 1) w
    · refine ev_iload hX dX2_countAttackers_31 rfl ?_
      refine ev_bipush hX dX2_countAttackers_33 (v := 8) (by decide +kernel) ?_
      refine ev_imul hX dX2_countAttackers_35 ?_
      refine ev_iload hX dX2_countAttackers_36 rfl ?_
      refine ev_iadd hX dX2_countAttackers_38 ?_
      refine ev_istore hX dX2_countAttackers_39 rfl (L' := [some (.inr (.inl 1)), some (.inl x1), some (.inl x2), some (.inl x3), some (.inl x4), some (.inl x5), some (.inl x6), some (.inl x7), some (.inl ((x6 * 8) + x4)), none, none]) rfl ?_
      refine ev_iload hX dX2_countAttackers_41 rfl ?_
      refine ev_if_lt (tgt := 66) hX dX2_countAttackers_43 (by decide) ?_ ?_
      · refine ev_iconst hX dX2_countAttackers_66 (v := (-1)) (by decide +kernel) ?_
        refine ev_mask [true, true, true, true, true, true, false, true, false, false, false] (L' := [some (.inr (.inl 1)), some (.inl x1), some (.inl x2), some (.inl x3), some (.inl x4), some (.inl x5), none, some (.inl x7), none, none, none]) rfl rfl ?_
        exact e_X2_countAttackers_67 hX hr k5 hk5 (fun x1' x2' x3' x4' x5' x6' x7' w' => f_X2_countAttackers_25 k5 n x1' x2' x3' x4' x5' x6' x7' w') (fun x1' x2' x3' x4' x5' x6' x7' w' => ih x1' x2' x3' x4' x5' x6' x7' w') x1 x2 x3 x4 x5 x7 (-1) w
      · refine ev_iload hX dX2_countAttackers_46 rfl ?_
        refine ev_aload_n hX dX2_countAttackers_48 rfl ?_
        refine ev_getr (k := 1) hX (T := TX2) in_X2_countAttackers_X2 rfl rfl rfl (show Cond.fieldLink RX2 15 "FiveShogi$Position" "beside" "[I" ∈ _ by decide +kernel) rfl dX2_countAttackers_49 ?_
        refine ev_alen hX rfl (v := 200) (by decide +kernel) dX2_countAttackers_52 ?_
        refine ev_icmp_ge (tgt := 66) hX dX2_countAttackers_53 (by decide) ?_ ?_
        · refine ev_iconst hX dX2_countAttackers_66 (v := (-1)) (by decide +kernel) ?_
          refine ev_mask [true, true, true, true, true, true, false, true, false, false, false] (L' := [some (.inr (.inl 1)), some (.inl x1), some (.inl x2), some (.inl x3), some (.inl x4), some (.inl x5), none, some (.inl x7), none, none, none]) rfl rfl ?_
          exact e_X2_countAttackers_67 hX hr k5 hk5 (fun x1' x2' x3' x4' x5' x6' x7' w' => f_X2_countAttackers_25 k5 n x1' x2' x3' x4' x5' x6' x7' w') (fun x1' x2' x3' x4' x5' x6' x7' w' => ih x1' x2' x3' x4' x5' x6' x7' w') x1 x2 x3 x4 x5 x7 (-1) w
        · refine ev_aload_n hX dX2_countAttackers_56 rfl ?_
          refine ev_getr (k := 1) hX (T := TX2) in_X2_countAttackers_X2 rfl rfl rfl (show Cond.fieldLink RX2 15 "FiveShogi$Position" "beside" "[I" ∈ _ by decide +kernel) rfl dX2_countAttackers_57 ?_
          refine ev_iload hX dX2_countAttackers_60 rfl ?_
          refine ev_iald hX rfl dX2_countAttackers_62 (fun j1 => ?_)
          refine ev_goto (tgt := 67) hX dX2_countAttackers_63 (by decide) ?_
          refine ev_mask [true, true, true, true, true, true, false, true, false, false, false] (L' := [some (.inr (.inl 1)), some (.inl x1), some (.inl x2), some (.inl x3), some (.inl x4), some (.inl x5), none, some (.inl x7), none, none, none]) rfl rfl ?_
          exact e_X2_countAttackers_67 hX hr k5 hk5 (fun x1' x2' x3' x4' x5' x6' x7' w' => f_X2_countAttackers_25 k5 n x1' x2' x3' x4' x5' x6' x7' w') (fun x1' x2' x3' x4' x5' x6' x7' w' => ih x1' x2' x3' x4' x5' x6' x7' w') x1 x2 x3 x4 x5 x7 (w 3 j1) w
set_option maxHeartbeats 4000000 in
set_option maxRecDepth 100000 in
theorem e_X2_countAttackers_5 (hX : mv_X p s m args meth c D vwCl cI cC tbX td A cX2_countAttackers 11 RX2 wsX2_countAttackers) (hr : meth.sig.returnType = (some .int)) : ∀ (n : Nat) (x1 : Int32) (x2 : Int32) (x3 : Int32) (x4 : Int32) (w : mvW), EV p l e (headSpec wsX2_countAttackers rm_X2_countAttackers).room s m args below meth c D vwCl cI cC td A (fun a => a = ad0) (mv_Qi below args s D vwCl cI cC shX ad0 A) 0 0 shX [some (.inr (.inl 1)), some (.inl x1), some (.inl x2), some (.inl x3), some (.inl x4), none, none, none, none, none, none] [] 5 w (f_X2_countAttackers_5 n x1 x2 x3 x4 w) := by
  intro n
  induction n with
  | zero => intro x1 x2 x3 x4 w; exact ev_none
  | succ n ih =>
    intro x1 x2 x3 x4 w
    rw [f_X2_countAttackers_5]
    refine ev_iload hX dX2_countAttackers_5 rfl ?_
    refine ev_bipush hX dX2_countAttackers_7 (v := 8) (by decide +kernel) ?_
    refine ev_icmp_ge (tgt := 179) hX dX2_countAttackers_9 (by decide) ?_ ?_
    · refine ev_iload_n hX dX2_countAttackers_179 rfl ?_
      exact ev_ireti hX hr dX2_countAttackers_180
    · refine ev_bipush hX dX2_countAttackers_12 (v := 7) (by decide +kernel) ?_
      refine ev_iload hX dX2_countAttackers_14 rfl ?_
      refine ev_isub hX dX2_countAttackers_16 ?_
      refine ev_istore hX dX2_countAttackers_17 rfl (L' := [some (.inr (.inl 1)), some (.inl x1), some (.inl x2), some (.inl x3), some (.inl x4), some (.inl (7 - x4)), none, none, none, none, none]) rfl ?_
      refine ev_iload_n hX dX2_countAttackers_19 rfl ?_
      refine ev_istore hX dX2_countAttackers_20 rfl (L' := [some (.inr (.inl 1)), some (.inl x1), some (.inl x2), some (.inl x3), some (.inl x4), some (.inl (7 - x4)), some (.inl x2), none, none, none, none]) rfl ?_
      refine ev_iconst hX dX2_countAttackers_22 (v := 1) (by decide +kernel) ?_
      refine ev_istore hX dX2_countAttackers_23 rfl (L' := [some (.inr (.inl 1)), some (.inl x1), some (.inl x2), some (.inl x3), some (.inl x4), some (.inl (7 - x4)), some (.inl x2), some (.inl 1), none, none, none]) rfl ?_
      refine ev_mask [true, true, true, true, true, true, true, true, false, false, false] (L' := [some (.inr (.inl 1)), some (.inl x1), some (.inl x2), some (.inl x3), some (.inl x4), some (.inl (7 - x4)), some (.inl x2), some (.inl 1), none, none, none]) rfl rfl ?_
      exact e_X2_countAttackers_25 hX hr (fun x1' x2' x3' x4' w' => f_X2_countAttackers_5 n x1' x2' x3' x4' w') (fun x1' x2' x3' x4' w' => ih x1' x2' x3' x4' w') 4096 x1 x2 x3 x4 (7 - x4) x2 1 w
set_option maxHeartbeats 4000000 in
set_option maxRecDepth 100000 in
theorem c_X2_countAttackers (l : Launch) (D : va_G) (cI cC : ClassId) (td : Nat → Option Nat) (a1 : Int32) (a2 : Int32) (w : mvW) : ∀ z, f_X2_countAttackers a1 a2 w = some z → mv_Ci l D vwCl cI cC tbX td yX2_countAttackers wsX2_countAttackers rm_X2_countAttackers shX w [.inr (.inl 1), .inl a1, .inl a2] z := by
  refine mv_starti (own := RX2) rfl (by decide) rfl rfl (L0 := [some (.inr (.inl 1)), some (.inl a1), some (.inl a2), none, none, none, none, none, none, none, none]) rfl (fun p e s m args below meth c A ad0 hX hr => ?_)
  rw [f_X2_countAttackers]
  refine ev_iconst hX dX2_countAttackers_0 (v := 0) (by decide +kernel) ?_
  refine ev_istore_n hX dX2_countAttackers_1 rfl (L' := [some (.inr (.inl 1)), some (.inl a1), some (.inl a2), some (.inl 0), none, none, none, none, none, none, none]) rfl ?_
  refine ev_iconst hX dX2_countAttackers_2 (v := 0) (by decide +kernel) ?_
  refine ev_istore hX dX2_countAttackers_3 rfl (L' := [some (.inr (.inl 1)), some (.inl a1), some (.inl a2), some (.inl 0), some (.inl 0), none, none, none, none, none, none]) rfl ?_
  refine ev_mask [true, true, true, true, true, false, false, false, false, false, false] (L' := [some (.inr (.inl 1)), some (.inl a1), some (.inl a2), some (.inl 0), some (.inl 0), none, none, none, none, none, none]) rfl rfl ?_
  exact e_X2_countAttackers_5 hX hr 4096 a1 a2 0 0 w
def rm_X3_isInCheck : Room := { frames := 2, cells := 0, slots := 0, locals := 41 }
set_option maxRecDepth 20000 in
theorem in_X3_isInCheck_X3 : ∀ w ∈ u_ws RX3 TX3 6, w ∈ wsX3_isInCheck := by decide +kernel
set_option maxHeartbeats 4000000 in
set_option maxRecDepth 100000 in
theorem c_X3_isInCheck (l : Launch) (D : va_G) (cI cC : ClassId) (td : Nat → Option Nat) (w : mvW) : ∀ z, f_X3_isInCheck w = some z → mv_Ci l D vwCl cI cC tbX td yX3_isInCheck wsX3_isInCheck rm_X3_isInCheck shX w [.inr (.inl 4)] z := by
  refine mv_starti (own := RX3) rfl (by decide) rfl rfl (L0 := [some (.inr (.inl 4)), none]) rfl (fun p e s m args below meth c A ad0 hX hr => ?_)
  rw [f_X3_isInCheck]
  refine ev_aload_n hX dX3_isInCheck_0 rfl ?_
  refine ev_getr (k := 0) hX (T := TX3) in_X3_isInCheck_X3 rfl rfl rfl (show Cond.fieldLink RX3 28 "FiveShogi$Rules" "position" "LFiveShogi$Position;" ∈ _ by decide +kernel) rfl dX3_isInCheck_1 ?_
  refine ev_callVi hX (k0 := 1) (As := []) (rm := rm_X2_sideToPlay) (c_X2_sideToPlay l D cI cC td w) (cwV 0 hX.ts gX3_isInCheck_X2_sideToPlay rfl rfl rfl (by decide +kernel) ⟨Nat.le_of_ble_eq_true rfl, Nat.le_of_ble_eq_true rfl⟩) rfl rfl rfl rfl rfl rfl ⟨Nat.le_of_ble_eq_true rfl, Nat.le_of_ble_eq_true rfl⟩ dX3_isInCheck_4 rfl (fun z1 hz1 => ?_)
  refine ev_istore_n hX dX3_isInCheck_7 rfl (L' := [some (.inr (.inl 4)), some (.inl z1.1)]) rfl ?_
  refine ev_aload_n hX dX3_isInCheck_8 rfl ?_
  refine ev_getr (k := 0) hX (T := TX3) in_X3_isInCheck_X3 rfl rfl rfl (show Cond.fieldLink RX3 28 "FiveShogi$Rules" "position" "LFiveShogi$Position;" ∈ _ by decide +kernel) rfl dX3_isInCheck_9 ?_
  refine ev_iconst hX dX3_isInCheck_12 (v := 1) (by decide +kernel) ?_
  refine ev_iload_n hX dX3_isInCheck_13 rfl ?_
  refine ev_isub hX dX3_isInCheck_14 ?_
  refine ev_aload_n hX dX3_isInCheck_15 rfl ?_
  refine ev_getr (k := 0) hX (T := TX3) in_X3_isInCheck_X3 rfl rfl rfl (show Cond.fieldLink RX3 28 "FiveShogi$Rules" "position" "LFiveShogi$Position;" ∈ _ by decide +kernel) rfl dX3_isInCheck_16 ?_
  refine ev_iload_n hX dX3_isInCheck_19 rfl ?_
  refine ev_callVi hX (k0 := 1) (As := [.inl z1.1]) (rm := rm_X2_kingOf) (c_X2_kingOf l D cI cC td z1.1 z1.2) (cwV 1 hX.ts gX3_isInCheck_X2_kingOf rfl rfl rfl (by decide +kernel) ⟨Nat.le_of_ble_eq_true rfl, Nat.le_of_ble_eq_true rfl⟩) rfl rfl rfl rfl rfl rfl ⟨Nat.le_of_ble_eq_true rfl, Nat.le_of_ble_eq_true rfl⟩ dX3_isInCheck_20 rfl (fun z2 hz2 => ?_)
  refine ev_callVi hX (k0 := 1) (As := [.inl (1 - z1.1), .inl z2.1]) (rm := rm_X2_countAttackers) (c_X2_countAttackers l D cI cC td (1 - z1.1) z2.1 z2.2) (cwV 2 hX.ts gX3_isInCheck_X2_countAttackers rfl rfl rfl (by decide +kernel) ⟨Nat.le_of_ble_eq_true rfl, Nat.le_of_ble_eq_true rfl⟩) rfl rfl rfl rfl rfl rfl ⟨Nat.le_of_ble_eq_true rfl, Nat.le_of_ble_eq_true rfl⟩ dX3_isInCheck_23 rfl (fun z3 hz3 => ?_)
  refine ev_if_le (tgt := 33) hX dX3_isInCheck_26 (by decide) ?_ ?_
  · refine ev_iconst hX dX3_isInCheck_33 (v := 0) (by decide +kernel) ?_
    exact ev_iretz0 hX hr dX3_isInCheck_34
  · refine ev_iconst hX dX3_isInCheck_29 (v := 1) (by decide +kernel) ?_
    refine ev_goto (tgt := 34) hX dX3_isInCheck_30 (by decide) ?_
    exact ev_iretz1 hX hr dX3_isInCheck_34
def rm_X4_asNumber : Room := { frames := 0, cells := 0, slots := 0, locals := 0 }
set_option maxHeartbeats 4000000 in
set_option maxRecDepth 100000 in
theorem c_X4_asNumber (l : Launch) (D : va_G) (cI cC : ClassId) (td : Nat → Option Nat) (a0 : Int32) (w : mvW) : ∀ z, f_X4_asNumber a0 w = some z → mv_Ci l D vwCl cI cC tbX td yX4_asNumber wsX4_asNumber rm_X4_asNumber shX w [.inl a0] z := by
  refine mv_starti (own := RX4) rfl (by decide) rfl rfl (L0 := [some (.inl a0)]) rfl (fun p e s m args below meth c A ad0 hX hr => ?_)
  rw [f_X4_asNumber]
  refine ev_iload_n hX dX4_asNumber_0 rfl ?_
  refine ev_if_eq (tgt := 8) hX dX4_asNumber_1 (by decide) ?_ ?_
  · refine ev_iconst hX dX4_asNumber_8 (v := 0) (by decide +kernel) ?_
    exact ev_ireti hX hr dX4_asNumber_9
  · refine ev_iconst hX dX4_asNumber_4 (v := 1) (by decide +kernel) ?_
    refine ev_goto (tgt := 9) hX dX4_asNumber_5 (by decide) ?_
    exact ev_ireti hX hr dX4_asNumber_9
def rm_X2_manOn : Room := { frames := 0, cells := 0, slots := 0, locals := 0 }
set_option maxRecDepth 20000 in
theorem in_X2_manOn_X2 : ∀ w ∈ u_ws RX2 TX2 2, w ∈ wsX2_manOn := by decide +kernel
set_option maxHeartbeats 4000000 in
set_option maxRecDepth 100000 in
theorem c_X2_manOn (l : Launch) (D : va_G) (cI cC : ClassId) (td : Nat → Option Nat) (a1 : Int32) (w : mvW) : ∀ z, f_X2_manOn a1 w = some z → mv_Ci l D vwCl cI cC tbX td yX2_manOn wsX2_manOn rm_X2_manOn shX w [.inr (.inl 1), .inl a1] z := by
  refine mv_starti (own := RX2) rfl (by decide) rfl rfl (L0 := [some (.inr (.inl 1)), some (.inl a1)]) rfl (fun p e s m args below meth c A ad0 hX hr => ?_)
  rw [f_X2_manOn]
  refine ev_iload_n hX dX2_manOn_0 rfl ?_
  refine ev_if_lt (tgt := 19) hX dX2_manOn_1 (by decide) ?_ ?_
  · refine ev_bipush hX dX2_manOn_19 (v := 99) (by decide +kernel) ?_
    exact ev_ireti hX hr dX2_manOn_21
  · refine ev_iload_n hX dX2_manOn_4 rfl ?_
    refine ev_bipush hX dX2_manOn_5 (v := 25) (by decide +kernel) ?_
    refine ev_icmp_ge (tgt := 19) hX dX2_manOn_7 (by decide) ?_ ?_
    · refine ev_bipush hX dX2_manOn_19 (v := 99) (by decide +kernel) ?_
      exact ev_ireti hX hr dX2_manOn_21
    · refine ev_aload_n hX dX2_manOn_10 rfl ?_
      refine ev_getr (k := 0) hX (T := TX2) in_X2_manOn_X2 rfl rfl rfl (show Cond.fieldLink RX2 11 "FiveShogi$Position" "state" "[I" ∈ _ by decide +kernel) rfl dX2_manOn_11 ?_
      refine ev_iload_n hX dX2_manOn_14 rfl ?_
      refine ev_iald hX rfl dX2_manOn_15 (fun j1 => ?_)
      refine ev_goto (tgt := 21) hX dX2_manOn_16 (by decide) ?_
      exact ev_ireti hX hr dX2_manOn_21
def rm_X4_manOf : Room := { frames := 0, cells := 0, slots := 0, locals := 0 }
set_option maxHeartbeats 4000000 in
set_option maxRecDepth 100000 in
theorem c_X4_manOf (l : Launch) (D : va_G) (cI cC : ClassId) (td : Nat → Option Nat) (a0 : Int32) (a1 : Int32) (w : mvW) : ∀ z, f_X4_manOf a0 a1 w = some z → mv_Ci l D vwCl cI cC tbX td yX4_manOf wsX4_manOf rm_X4_manOf shX w [.inl a0, .inl a1] z := by
  refine mv_starti (own := RX4) rfl (by decide) rfl rfl (L0 := [some (.inl a0), some (.inl a1)]) rfl (fun p e s m args below meth c A ad0 hX hr => ?_)
  rw [f_X4_manOf]
  refine ev_iload_n hX dX4_manOf_0 rfl ?_
  refine ev_bipush hX dX4_manOf_1 (v := 10) (by decide +kernel) ?_
  refine ev_imul hX dX4_manOf_3 ?_
  refine ev_iload_n hX dX4_manOf_4 rfl ?_
  refine ev_iadd hX dX4_manOf_5 ?_
  exact ev_ireti hX hr dX4_manOf_6
set_option maxHeartbeats 4000000 in
set_option maxRecDepth 100000 in
theorem c_X4_isSquare (l : Launch) (D : va_G) (cI cC : ClassId) (td : Nat → Option Nat) (a0 : Int32) (w : mvW) : ∀ z, f_X4_isSquare a0 w = some z → mv_Ci l D vwCl cI cC tbX td yX4_isSquare wsX4_isSquare rm_X4_isSquare shX w [.inl a0] z := by
  refine mv_starti (own := RX4) rfl (by decide) rfl rfl (L0 := [some (.inl a0)]) rfl (fun p e s m args below meth c A ad0 hX hr => ?_)
  rw [f_X4_isSquare]
  refine ev_iload_n hX dX4_isSquare_0 rfl ?_
  refine ev_if_lt (tgt := 14) hX dX4_isSquare_1 (by decide) ?_ ?_
  · refine ev_iconst hX dX4_isSquare_14 (v := 0) (by decide +kernel) ?_
    exact ev_iretz0 hX hr dX4_isSquare_15
  · refine ev_iload_n hX dX4_isSquare_4 rfl ?_
    refine ev_bipush hX dX4_isSquare_5 (v := 25) (by decide +kernel) ?_
    refine ev_icmp_ge (tgt := 14) hX dX4_isSquare_7 (by decide) ?_ ?_
    · refine ev_iconst hX dX4_isSquare_14 (v := 0) (by decide +kernel) ?_
      exact ev_iretz0 hX hr dX4_isSquare_15
    · refine ev_iconst hX dX4_isSquare_10 (v := 1) (by decide +kernel) ?_
      refine ev_goto (tgt := 15) hX dX4_isSquare_11 (by decide) ?_
      exact ev_iretz1 hX hr dX4_isSquare_15
set_option maxHeartbeats 4000000 in
set_option maxRecDepth 100000 in
theorem c_X4_isMan (l : Launch) (D : va_G) (cI cC : ClassId) (td : Nat → Option Nat) (a0 : Int32) (w : mvW) : ∀ z, f_X4_isMan a0 w = some z → mv_Ci l D vwCl cI cC tbX td yX4_isMan wsX4_isMan rm_X4_isMan shX w [.inl a0] z := by
  refine mv_starti (own := RX4) rfl (by decide) rfl rfl (L0 := [some (.inl a0)]) rfl (fun p e s m args below meth c A ad0 hX hr => ?_)
  rw [f_X4_isMan]
  refine ev_iload_n hX dX4_isMan_0 rfl ?_
  refine ev_if_lt (tgt := 14) hX dX4_isMan_1 (by decide) ?_ ?_
  · refine ev_iconst hX dX4_isMan_14 (v := 0) (by decide +kernel) ?_
    exact ev_iretz0 hX hr dX4_isMan_15
  · refine ev_iload_n hX dX4_isMan_4 rfl ?_
    refine ev_bipush hX dX4_isMan_5 (v := 20) (by decide +kernel) ?_
    refine ev_icmp_ge (tgt := 14) hX dX4_isMan_7 (by decide) ?_ ?_
    · refine ev_iconst hX dX4_isMan_14 (v := 0) (by decide +kernel) ?_
      exact ev_iretz0 hX hr dX4_isMan_15
    · refine ev_iconst hX dX4_isMan_10 (v := 1) (by decide +kernel) ?_
      refine ev_goto (tgt := 15) hX dX4_isMan_11 (by decide) ?_
      exact ev_iretz1 hX hr dX4_isMan_15
set_option maxHeartbeats 4000000 in
set_option maxRecDepth 100000 in
theorem c_X4_kindOf (l : Launch) (D : va_G) (cI cC : ClassId) (td : Nat → Option Nat) (a0 : Int32) (w : mvW) : ∀ z, f_X4_kindOf a0 w = some z → mv_Ci l D vwCl cI cC tbX td yX4_kindOf wsX4_kindOf rm_X4_kindOf shX w [.inl a0] z := by
  refine mv_starti (own := RX4) rfl (by decide) rfl rfl (L0 := [some (.inl a0)]) rfl (fun p e s m args below meth c A ad0 hX hr => ?_)
  rw [f_X4_kindOf]
  refine ev_iload_n hX dX4_kindOf_0 rfl ?_
  refine ev_bipush hX dX4_kindOf_1 (v := 10) (by decide +kernel) ?_
  refine ev_irem hX dX4_kindOf_3 (by decide) ?_
  exact ev_ireti hX hr dX4_kindOf_4
set_option maxHeartbeats 4000000 in
set_option maxRecDepth 100000 in
theorem c_X4_sideOf (l : Launch) (D : va_G) (cI cC : ClassId) (td : Nat → Option Nat) (a0 : Int32) (w : mvW) : ∀ z, f_X4_sideOf a0 w = some z → mv_Ci l D vwCl cI cC tbX td yX4_sideOf wsX4_sideOf rm_X4_sideOf shX w [.inl a0] z := by
  refine mv_starti (own := RX4) rfl (by decide) rfl rfl (L0 := [some (.inl a0)]) rfl (fun p e s m args below meth c A ad0 hX hr => ?_)
  rw [f_X4_sideOf]
  refine ev_iload_n hX dX4_sideOf_0 rfl ?_
  refine ev_bipush hX dX4_sideOf_1 (v := 10) (by decide +kernel) ?_
  refine ev_idiv hX dX4_sideOf_3 (by decide) ?_
  exact ev_ireti hX hr dX4_sideOf_4
set_option maxHeartbeats 4000000 in
set_option maxRecDepth 100000 in
theorem e_X2_place_42 (hX : mv_X p s m args meth c D vwCl cI cC tbX td A cX2_place 4 RX2 wsX2_place) (hr : meth.sig.returnType = none) (x1 : Int32) (x2 : Int32) (w : mvW) : EV p l e (headSpec wsX2_place rm_X2_place).room s m args below meth c D vwCl cI cC td A (fun a => a = ad0) (mv_Qv below args s D vwCl cI cC shX ad0 A) 0 0 shX [some (.inr (.inl 1)), some (.inl x1), some (.inl x2), none] [] 42 w (f_X2_place_42 x1 x2 w) := by
  rw [f_X2_place_42]
  refine ev_aload_n hX dX2_place_42 rfl ?_
  refine ev_getr (k := 0) hX (T := TX2) in_X2_place_X2 rfl rfl rfl (show Cond.fieldLink RX2 11 "FiveShogi$Position" "state" "[I" ∈ _ by decide +kernel) rfl dX2_place_43 ?_
  refine ev_iload_n hX dX2_place_46 rfl ?_
  refine ev_iload_n hX dX2_place_47 rfl ?_
  refine ev_iast hX rfl dX2_place_48 (fun j7 => ?_)
  refine ev_iload_n hX dX2_place_49 rfl ?_
  refine ev_callNi hX (As := [.inl x2]) (rm := rm_X4_isMan) (c_X4_isMan l D cI cC td x2 (mv_up w 2 j7 x2)) ⟨va_cnB (host := "FiveShogi") 1 hX.ts gX2_place_X4_isMan_n45 rfl rfl rfl (hX.sta.2.1 (_, 45, _, _) (List.mem_of_getElem? (i := 2) rfl)) (hX.ts _ (show Cond.initialized RX4 ∈ _ by decide +kernel)) (by decide +kernel) ⟨Nat.le_of_ble_eq_true rfl, Nat.le_of_ble_eq_true rfl⟩, hX.ts _ (show Cond.static yX4_isMan ∈ _ by decide +kernel), trivial⟩ rfl rfl rfl ⟨Nat.le_of_ble_eq_true rfl, Nat.le_of_ble_eq_true rfl⟩ dX2_place_50 rfl (fun z8 hz8 => ?_)
  refine ev_if_eq (tgt := 76) hX dX2_place_53 (by decide) ?_ ?_
  · exact ev_vret hX hr dX2_place_76
  · refine ev_iload_n hX dX2_place_56 rfl ?_
    refine ev_callNi hX (As := [.inl x2]) (rm := rm_X4_kindOf) (c_X4_kindOf l D cI cC td x2 z8.2) ⟨va_cnB (host := "FiveShogi") 1 hX.ts gX2_place_X4_kindOf_n48 rfl rfl rfl (hX.sta.2.1 (_, 48, _, _) (List.mem_of_getElem? (i := 3) rfl)) (hX.ts _ (show Cond.initialized RX4 ∈ _ by decide +kernel)) (by decide +kernel) ⟨Nat.le_of_ble_eq_true rfl, Nat.le_of_ble_eq_true rfl⟩, hX.ts _ (show Cond.static yX4_kindOf ∈ _ by decide +kernel), trivial⟩ rfl rfl rfl ⟨Nat.le_of_ble_eq_true rfl, Nat.le_of_ble_eq_true rfl⟩ dX2_place_57 rfl (fun z9 hz9 => ?_)
    refine ev_if_ne (tgt := 76) hX dX2_place_60 (by decide) ?_ ?_
    · exact ev_vret hX hr dX2_place_76
    · refine ev_aload_n hX dX2_place_63 rfl ?_
      refine ev_getr (k := 0) hX (T := TX2) in_X2_place_X2 rfl rfl rfl (show Cond.fieldLink RX2 11 "FiveShogi$Position" "state" "[I" ∈ _ by decide +kernel) rfl dX2_place_64 ?_
      refine ev_bipush hX dX2_place_67 (v := 37) (by decide +kernel) ?_
      refine ev_iload_n hX dX2_place_69 rfl ?_
      refine ev_callNi hX (As := [.inl x2]) (rm := rm_X4_sideOf) (c_X4_sideOf l D cI cC td x2 z9.2) ⟨va_cnB (host := "FiveShogi") 1 hX.ts gX2_place_X4_sideOf_n52 rfl rfl rfl (hX.sta.2.1 (_, 52, _, _) (List.mem_of_getElem? (i := 4) rfl)) (hX.ts _ (show Cond.initialized RX4 ∈ _ by decide +kernel)) (by decide +kernel) ⟨Nat.le_of_ble_eq_true rfl, Nat.le_of_ble_eq_true rfl⟩, hX.ts _ (show Cond.static yX4_sideOf ∈ _ by decide +kernel), trivial⟩ rfl rfl rfl ⟨Nat.le_of_ble_eq_true rfl, Nat.le_of_ble_eq_true rfl⟩ dX2_place_70 rfl (fun z10 hz10 => ?_)
      refine ev_iadd hX dX2_place_73 ?_
      refine ev_iload_n hX dX2_place_74 rfl ?_
      refine ev_iast hX rfl dX2_place_75 (fun j11 => ?_)
      exact ev_vret hX hr dX2_place_76
set_option maxHeartbeats 4000000 in
set_option maxRecDepth 100000 in
theorem c_X2_place (l : Launch) (D : va_G) (cI cC : ClassId) (td : Nat → Option Nat) (a1 : Int32) (a2 : Int32) (w : mvW) : ∀ z, f_X2_place a1 a2 w = some z → mv_Cv l D vwCl cI cC tbX td yX2_place wsX2_place rm_X2_place shX w [.inr (.inl 1), .inl a1, .inl a2] z := by
  refine mv_startv (own := RX2) rfl (by decide) rfl rfl (L0 := [some (.inr (.inl 1)), some (.inl a1), some (.inl a2), none]) rfl (fun p e s m args below meth c A ad0 hX hr => ?_)
  rw [f_X2_place]
  refine ev_iload_n hX dX2_place_0 rfl ?_
  refine ev_callNi hX (As := [.inl a1]) (rm := rm_X4_isSquare) (c_X4_isSquare l D cI cC td a1 w) ⟨va_cnB (host := "FiveShogi") 1 hX.ts gX2_place_X4_isSquare_n42 rfl rfl rfl (hX.sta.2.1 (_, 42, _, _) (List.mem_of_getElem? (i := 1) rfl)) (hX.ts _ (show Cond.initialized RX4 ∈ _ by decide +kernel)) (by decide +kernel) ⟨Nat.le_of_ble_eq_true rfl, Nat.le_of_ble_eq_true rfl⟩, hX.ts _ (show Cond.static yX4_isSquare ∈ _ by decide +kernel), trivial⟩ rfl rfl rfl ⟨Nat.le_of_ble_eq_true rfl, Nat.le_of_ble_eq_true rfl⟩ dX2_place_1 rfl (fun z1 hz1 => ?_)
  refine ev_if_ne (tgt := 8) hX dX2_place_4 (by decide) ?_ ?_
  · refine ev_aload_n hX dX2_place_8 rfl ?_
    refine ev_getr (k := 0) hX (T := TX2) in_X2_place_X2 rfl rfl rfl (show Cond.fieldLink RX2 11 "FiveShogi$Position" "state" "[I" ∈ _ by decide +kernel) rfl dX2_place_9 ?_
    refine ev_iload_n hX dX2_place_12 rfl ?_
    refine ev_iald hX rfl dX2_place_13 (fun j2 => ?_)
    refine ev_istore_n hX dX2_place_14 rfl (L' := [some (.inr (.inl 1)), some (.inl a1), some (.inl a2), some (.inl (z1.2 2 j2))]) rfl ?_
    refine ev_iload_n hX dX2_place_15 rfl ?_
    refine ev_callNi hX (As := [.inl (z1.2 2 j2)]) (rm := rm_X4_isMan) (c_X4_isMan l D cI cC td (z1.2 2 j2) z1.2) ⟨va_cnB (host := "FiveShogi") 1 hX.ts gX2_place_X4_isMan_n45 rfl rfl rfl (hX.sta.2.1 (_, 45, _, _) (List.mem_of_getElem? (i := 2) rfl)) (hX.ts _ (show Cond.initialized RX4 ∈ _ by decide +kernel)) (by decide +kernel) ⟨Nat.le_of_ble_eq_true rfl, Nat.le_of_ble_eq_true rfl⟩, hX.ts _ (show Cond.static yX4_isMan ∈ _ by decide +kernel), trivial⟩ rfl rfl rfl ⟨Nat.le_of_ble_eq_true rfl, Nat.le_of_ble_eq_true rfl⟩ dX2_place_16 rfl (fun z3 hz3 => ?_)
    refine ev_if_eq (tgt := 42) hX dX2_place_19 (by decide) ?_ ?_
    · refine ev_mask [true, true, true, false] (L' := [some (.inr (.inl 1)), some (.inl a1), some (.inl a2), none]) rfl rfl ?_
      exact e_X2_place_42 hX hr a1 a2 z3.2
    · refine ev_iload_n hX dX2_place_22 rfl ?_
      refine ev_callNi hX (As := [.inl (z1.2 2 j2)]) (rm := rm_X4_kindOf) (c_X4_kindOf l D cI cC td (z1.2 2 j2) z3.2) ⟨va_cnB (host := "FiveShogi") 1 hX.ts gX2_place_X4_kindOf_n48 rfl rfl rfl (hX.sta.2.1 (_, 48, _, _) (List.mem_of_getElem? (i := 3) rfl)) (hX.ts _ (show Cond.initialized RX4 ∈ _ by decide +kernel)) (by decide +kernel) ⟨Nat.le_of_ble_eq_true rfl, Nat.le_of_ble_eq_true rfl⟩, hX.ts _ (show Cond.static yX4_kindOf ∈ _ by decide +kernel), trivial⟩ rfl rfl rfl ⟨Nat.le_of_ble_eq_true rfl, Nat.le_of_ble_eq_true rfl⟩ dX2_place_23 rfl (fun z4 hz4 => ?_)
      refine ev_if_ne (tgt := 42) hX dX2_place_26 (by decide) ?_ ?_
      · refine ev_mask [true, true, true, false] (L' := [some (.inr (.inl 1)), some (.inl a1), some (.inl a2), none]) rfl rfl ?_
        exact e_X2_place_42 hX hr a1 a2 z4.2
      · refine ev_aload_n hX dX2_place_29 rfl ?_
        refine ev_getr (k := 0) hX (T := TX2) in_X2_place_X2 rfl rfl rfl (show Cond.fieldLink RX2 11 "FiveShogi$Position" "state" "[I" ∈ _ by decide +kernel) rfl dX2_place_30 ?_
        refine ev_bipush hX dX2_place_33 (v := 37) (by decide +kernel) ?_
        refine ev_iload_n hX dX2_place_35 rfl ?_
        refine ev_callNi hX (As := [.inl (z1.2 2 j2)]) (rm := rm_X4_sideOf) (c_X4_sideOf l D cI cC td (z1.2 2 j2) z4.2) ⟨va_cnB (host := "FiveShogi") 1 hX.ts gX2_place_X4_sideOf_n52 rfl rfl rfl (hX.sta.2.1 (_, 52, _, _) (List.mem_of_getElem? (i := 4) rfl)) (hX.ts _ (show Cond.initialized RX4 ∈ _ by decide +kernel)) (by decide +kernel) ⟨Nat.le_of_ble_eq_true rfl, Nat.le_of_ble_eq_true rfl⟩, hX.ts _ (show Cond.static yX4_sideOf ∈ _ by decide +kernel), trivial⟩ rfl rfl rfl ⟨Nat.le_of_ble_eq_true rfl, Nat.le_of_ble_eq_true rfl⟩ dX2_place_36 rfl (fun z5 hz5 => ?_)
        refine ev_iadd hX dX2_place_39 ?_
        refine ev_iconst hX dX2_place_40 (v := (-1)) (by decide +kernel) ?_
        refine ev_iast hX rfl dX2_place_41 (fun j6 => ?_)
        refine ev_mask [true, true, true, false] (L' := [some (.inr (.inl 1)), some (.inl a1), some (.inl a2), none]) rfl rfl ?_
        exact e_X2_place_42 hX hr a1 a2 (mv_up z5.2 2 j6 (-1))
  · exact ev_vret hX hr dX2_place_7
def rm_X4_bit : Room := { frames := 0, cells := 0, slots := 0, locals := 0 }
set_option maxHeartbeats 4000000 in
set_option maxRecDepth 100000 in
theorem c_X4_bit (l : Launch) (D : va_G) (cI cC : ClassId) (td : Nat → Option Nat) (a0 : Int32) (w : mvW) : ∀ z, f_X4_bit a0 w = some z → mv_Ci l D vwCl cI cC tbX td yX4_bit wsX4_bit rm_X4_bit shX w [.inl a0] z := by
  refine mv_starti (own := RX4) rfl (by decide) rfl rfl (L0 := [some (.inl a0)]) rfl (fun p e s m args below meth c A ad0 hX hr => ?_)
  rw [f_X4_bit]
  refine ev_iconst hX dX4_bit_0 (v := 1) (by decide +kernel) ?_
  refine ev_iload_n hX dX4_bit_1 rfl ?_
  refine ev_ishl hX dX4_bit_2 ?_
  exact ev_ireti hX hr dX4_bit_3
def rm_X3_safeDrops : Room := { frames := 2, cells := 0, slots := 0, locals := 43 }
set_option maxRecDepth 20000 in
theorem in_X3_safeDrops_X3 : ∀ w ∈ u_ws RX3 TX3 6, w ∈ wsX3_safeDrops := by decide +kernel
set_option maxHeartbeats 4000000 in
set_option maxRecDepth 100000 in
theorem e_X3_safeDrops_99 (hX : mv_X p s m args meth c D vwCl cI cC tbX td A cX3_safeDrops 6 RX3 wsX3_safeDrops) (hr : meth.sig.returnType = (some .int)) (k43 : Int32 → Int32 → Int32 → Int32 → Int32 → mvW → Option (Int32 × mvW)) (hk43 : ∀ (x1 : Int32) (x2 : Int32) (x3 : Int32) (x4 : Int32) (x5 : Int32) (w : mvW), EV p l e (headSpec wsX3_safeDrops rm_X3_safeDrops).room s m args below meth c D vwCl cI cC td A (fun a => a = ad0) (mv_Qi below args s D vwCl cI cC shX ad0 A) 0 0 shX [some (.inr (.inl 4)), some (.inl x1), some (.inl x2), some (.inl x3), some (.inl x4), some (.inl x5)] [] 43 w (k43 x1 x2 x3 x4 x5 w)) (x1 : Int32) (x2 : Int32) (x3 : Int32) (x4 : Int32) (x5 : Int32) (w : mvW) : EV p l e (headSpec wsX3_safeDrops rm_X3_safeDrops).room s m args below meth c D vwCl cI cC td A (fun a => a = ad0) (mv_Qi below args s D vwCl cI cC shX ad0 A) 0 0 shX [some (.inr (.inl 4)), some (.inl x1), some (.inl x2), some (.inl x3), some (.inl x4), some (.inl x5)] [] 99 w (f_X3_safeDrops_99 k43 x1 x2 x3 x4 x5 w) := by
  rw [f_X3_safeDrops_99]
  refine ev_iload hX dX3_safeDrops_99 rfl ?_
  refine ev_iload hX dX3_safeDrops_101 rfl ?_
  refine ev_callNi hX (As := [.inl x5]) (rm := rm_X4_bit) (c_X4_bit l D cI cC td x5 w) ⟨va_cnB (host := "FiveShogi") 1 hX.ts gX3_safeDrops_X4_bit_n104 rfl rfl rfl (hX.sta.2.1 (_, 104, _, _) (List.mem_of_getElem? (i := 14) rfl)) (hX.ts _ (show Cond.initialized RX4 ∈ _ by decide +kernel)) (by decide +kernel) ⟨Nat.le_of_ble_eq_true rfl, Nat.le_of_ble_eq_true rfl⟩, hX.ts _ (show Cond.static yX4_bit ∈ _ by decide +kernel), trivial⟩ rfl rfl rfl ⟨Nat.le_of_ble_eq_true rfl, Nat.le_of_ble_eq_true rfl⟩ dX3_safeDrops_103 rfl (fun z9 hz9 => ?_)
  refine ev_ior hX dX3_safeDrops_106 ?_
  refine ev_istore hX dX3_safeDrops_107 rfl (L' := [some (.inr (.inl 4)), some (.inl x1), some (.inl x2), some (.inl x3), some (.inl (x4 ||| z9.1)), some (.inl x5)]) rfl ?_
  refine ev_aload_n hX dX3_safeDrops_109 rfl ?_
  refine ev_getr (k := 0) hX (T := TX3) in_X3_safeDrops_X3 rfl rfl rfl (show Cond.fieldLink RX3 28 "FiveShogi$Rules" "position" "LFiveShogi$Position;" ∈ _ by decide +kernel) rfl dX3_safeDrops_110 ?_
  refine ev_iload hX dX3_safeDrops_113 rfl ?_
  refine ev_bipush hX dX3_safeDrops_115 (v := 99) (by decide +kernel) ?_
  refine ev_callVv hX (k0 := 1) (As := [.inl x5, .inl 99]) (rm := rm_X2_place) (c_X2_place l D cI cC td x5 99 z9.2) (cwV 2 hX.ts gX3_safeDrops_X2_place rfl rfl rfl (by decide +kernel) ⟨Nat.le_of_ble_eq_true rfl, Nat.le_of_ble_eq_true rfl⟩) rfl rfl rfl rfl rfl rfl ⟨Nat.le_of_ble_eq_true rfl, Nat.le_of_ble_eq_true rfl⟩ dX3_safeDrops_117 rfl (fun z10 hz10 => ?_)
  refine ev_iinc hX dX3_safeDrops_120 rfl (v := 1) (by decide +kernel) (L' := [some (.inr (.inl 4)), some (.inl x1), some (.inl x2), some (.inl x3), some (.inl (x4 ||| z9.1)), some (.inl (x5 + 1))]) rfl ?_
  refine ev_goto (tgt := 43) hX dX3_safeDrops_123 (by decide) ?_
  refine ev_mask [true, true, true, true, true, true] (L' := [some (.inr (.inl 4)), some (.inl x1), some (.inl x2), some (.inl x3), some (.inl (x4 ||| z9.1)), some (.inl (x5 + 1))]) rfl rfl ?_
  exact hk43 x1 x2 x3 (x4 ||| z9.1) (x5 + 1) z10
set_option maxHeartbeats 4000000 in
set_option maxRecDepth 100000 in
theorem e_X3_safeDrops_43 (hX : mv_X p s m args meth c D vwCl cI cC tbX td A cX3_safeDrops 6 RX3 wsX3_safeDrops) (hr : meth.sig.returnType = (some .int)) : ∀ (n : Nat) (x1 : Int32) (x2 : Int32) (x3 : Int32) (x4 : Int32) (x5 : Int32) (w : mvW), EV p l e (headSpec wsX3_safeDrops rm_X3_safeDrops).room s m args below meth c D vwCl cI cC td A (fun a => a = ad0) (mv_Qi below args s D vwCl cI cC shX ad0 A) 0 0 shX [some (.inr (.inl 4)), some (.inl x1), some (.inl x2), some (.inl x3), some (.inl x4), some (.inl x5)] [] 43 w (f_X3_safeDrops_43 n x1 x2 x3 x4 x5 w) := by
  intro n
  induction n with
  | zero => intro x1 x2 x3 x4 x5 w; exact ev_none
  | succ n ih =>
    intro x1 x2 x3 x4 x5 w
    rw [f_X3_safeDrops_43]
    refine ev_iload hX dX3_safeDrops_43 rfl ?_
    refine ev_bipush hX dX3_safeDrops_45 (v := 25) (by decide +kernel) ?_
    refine ev_icmp_ge (tgt := 126) hX dX3_safeDrops_47 (by decide) ?_ ?_
    · refine ev_iload hX dX3_safeDrops_126 rfl ?_
      exact ev_ireti hX hr dX3_safeDrops_128
    · refine ev_aload_n hX dX3_safeDrops_50 rfl ?_
      refine ev_getr (k := 0) hX (T := TX3) in_X3_safeDrops_X3 rfl rfl rfl (show Cond.fieldLink RX3 28 "FiveShogi$Rules" "position" "LFiveShogi$Position;" ∈ _ by decide +kernel) rfl dX3_safeDrops_51 ?_
      refine ev_iload hX dX3_safeDrops_54 rfl ?_
      refine ev_callVi hX (k0 := 1) (As := [.inl x5]) (rm := rm_X2_manOn) (c_X2_manOn l D cI cC td x5 w) (cwV 1 hX.ts gX3_safeDrops_X2_manOn rfl rfl rfl (by decide +kernel) ⟨Nat.le_of_ble_eq_true rfl, Nat.le_of_ble_eq_true rfl⟩) rfl rfl rfl rfl rfl rfl ⟨Nat.le_of_ble_eq_true rfl, Nat.le_of_ble_eq_true rfl⟩ dX3_safeDrops_56 rfl (fun z4 hz4 => ?_)
      refine ev_bipush hX dX3_safeDrops_59 (v := 99) (by decide +kernel) ?_
      refine ev_icmp_eq (tgt := 67) hX dX3_safeDrops_61 (by decide) ?_ ?_
      · refine ev_aload_n hX dX3_safeDrops_67 rfl ?_
        refine ev_getr (k := 0) hX (T := TX3) in_X3_safeDrops_X3 rfl rfl rfl (show Cond.fieldLink RX3 28 "FiveShogi$Rules" "position" "LFiveShogi$Position;" ∈ _ by decide +kernel) rfl dX3_safeDrops_68 ?_
        refine ev_iload hX dX3_safeDrops_71 rfl ?_
        refine ev_iload_n hX dX3_safeDrops_73 rfl ?_
        refine ev_iconst hX dX3_safeDrops_74 (v := 1) (by decide +kernel) ?_
        refine ev_callNi hX (As := [.inl x1, .inl 1]) (rm := rm_X4_manOf) (c_X4_manOf l D cI cC td x1 1 z4.2) ⟨va_cnB (host := "FiveShogi") 2 hX.ts gX3_safeDrops_X4_manOf_n135 rfl rfl rfl (hX.sta.2.1 (_, 135, _, _) (List.mem_of_getElem? (i := 13) rfl)) (hX.ts _ (show Cond.initialized RX4 ∈ _ by decide +kernel)) (by decide +kernel) ⟨Nat.le_of_ble_eq_true rfl, Nat.le_of_ble_eq_true rfl⟩, hX.ts _ (show Cond.static yX4_manOf ∈ _ by decide +kernel), trivial⟩ rfl rfl rfl ⟨Nat.le_of_ble_eq_true rfl, Nat.le_of_ble_eq_true rfl⟩ dX3_safeDrops_75 rfl (fun z5 hz5 => ?_)
        refine ev_callVv hX (k0 := 1) (As := [.inl x5, .inl z5.1]) (rm := rm_X2_place) (c_X2_place l D cI cC td x5 z5.1 z5.2) (cwV 2 hX.ts gX3_safeDrops_X2_place rfl rfl rfl (by decide +kernel) ⟨Nat.le_of_ble_eq_true rfl, Nat.le_of_ble_eq_true rfl⟩) rfl rfl rfl rfl rfl rfl ⟨Nat.le_of_ble_eq_true rfl, Nat.le_of_ble_eq_true rfl⟩ dX3_safeDrops_78 rfl (fun z6 hz6 => ?_)
        refine ev_iload_n hX dX3_safeDrops_81 rfl ?_
        refine ev_if_ne (tgt := 99) hX dX3_safeDrops_82 (by decide) ?_ ?_
        · refine ev_mask [true, true, true, true, true, true] (L' := [some (.inr (.inl 4)), some (.inl x1), some (.inl x2), some (.inl x3), some (.inl x4), some (.inl x5)]) rfl rfl ?_
          exact e_X3_safeDrops_99 hX hr (fun x1' x2' x3' x4' x5' w' => f_X3_safeDrops_43 n x1' x2' x3' x4' x5' w') (fun x1' x2' x3' x4' x5' w' => ih x1' x2' x3' x4' x5' w') x1 x2 x3 x4 x5 z6
        · refine ev_aload_n hX dX3_safeDrops_85 rfl ?_
          refine ev_getr (k := 0) hX (T := TX3) in_X3_safeDrops_X3 rfl rfl rfl (show Cond.fieldLink RX3 28 "FiveShogi$Rules" "position" "LFiveShogi$Position;" ∈ _ by decide +kernel) rfl dX3_safeDrops_86 ?_
          refine ev_iconst hX dX3_safeDrops_89 (v := 1) (by decide +kernel) ?_
          refine ev_iload_n hX dX3_safeDrops_90 rfl ?_
          refine ev_isub hX dX3_safeDrops_91 ?_
          refine ev_iload_n hX dX3_safeDrops_92 rfl ?_
          refine ev_callVi hX (k0 := 1) (As := [.inl (1 - x1), .inl x2]) (rm := rm_X2_countAttackers) (c_X2_countAttackers l D cI cC td (1 - x1) x2 z6) (cwV 2 hX.ts gX3_safeDrops_X2_countAttackers rfl rfl rfl (by decide +kernel) ⟨Nat.le_of_ble_eq_true rfl, Nat.le_of_ble_eq_true rfl⟩) rfl rfl rfl rfl rfl rfl ⟨Nat.le_of_ble_eq_true rfl, Nat.le_of_ble_eq_true rfl⟩ dX3_safeDrops_93 rfl (fun z7 hz7 => ?_)
          refine ev_if_ne (tgt := 109) hX dX3_safeDrops_96 (by decide) ?_ ?_
          · refine ev_aload_n hX dX3_safeDrops_109 rfl ?_
            refine ev_getr (k := 0) hX (T := TX3) in_X3_safeDrops_X3 rfl rfl rfl (show Cond.fieldLink RX3 28 "FiveShogi$Rules" "position" "LFiveShogi$Position;" ∈ _ by decide +kernel) rfl dX3_safeDrops_110 ?_
            refine ev_iload hX dX3_safeDrops_113 rfl ?_
            refine ev_bipush hX dX3_safeDrops_115 (v := 99) (by decide +kernel) ?_
            refine ev_callVv hX (k0 := 1) (As := [.inl x5, .inl 99]) (rm := rm_X2_place) (c_X2_place l D cI cC td x5 99 z7.2) (cwV 2 hX.ts gX3_safeDrops_X2_place rfl rfl rfl (by decide +kernel) ⟨Nat.le_of_ble_eq_true rfl, Nat.le_of_ble_eq_true rfl⟩) rfl rfl rfl rfl rfl rfl ⟨Nat.le_of_ble_eq_true rfl, Nat.le_of_ble_eq_true rfl⟩ dX3_safeDrops_117 rfl (fun z8 hz8 => ?_)
            refine ev_iinc hX dX3_safeDrops_120 rfl (v := 1) (by decide +kernel) (L' := [some (.inr (.inl 4)), some (.inl x1), some (.inl x2), some (.inl x3), some (.inl x4), some (.inl (x5 + 1))]) rfl ?_
            refine ev_goto (tgt := 43) hX dX3_safeDrops_123 (by decide) ?_
            refine ev_mask [true, true, true, true, true, true] (L' := [some (.inr (.inl 4)), some (.inl x1), some (.inl x2), some (.inl x3), some (.inl x4), some (.inl (x5 + 1))]) rfl rfl ?_
            exact ih x1 x2 x3 x4 (x5 + 1) z8
          · refine ev_mask [true, true, true, true, true, true] (L' := [some (.inr (.inl 4)), some (.inl x1), some (.inl x2), some (.inl x3), some (.inl x4), some (.inl x5)]) rfl rfl ?_
            exact e_X3_safeDrops_99 hX hr (fun x1' x2' x3' x4' x5' w' => f_X3_safeDrops_43 n x1' x2' x3' x4' x5' w') (fun x1' x2' x3' x4' x5' w' => ih x1' x2' x3' x4' x5' w') x1 x2 x3 x4 x5 z7.2
      · refine ev_goto (tgt := 120) hX dX3_safeDrops_64 (by decide) ?_
        refine ev_iinc hX dX3_safeDrops_120 rfl (v := 1) (by decide +kernel) (L' := [some (.inr (.inl 4)), some (.inl x1), some (.inl x2), some (.inl x3), some (.inl x4), some (.inl (x5 + 1))]) rfl ?_
        refine ev_goto (tgt := 43) hX dX3_safeDrops_123 (by decide) ?_
        refine ev_mask [true, true, true, true, true, true] (L' := [some (.inr (.inl 4)), some (.inl x1), some (.inl x2), some (.inl x3), some (.inl x4), some (.inl (x5 + 1))]) rfl rfl ?_
        exact ih x1 x2 x3 x4 (x5 + 1) z4.2
set_option maxHeartbeats 4000000 in
set_option maxRecDepth 100000 in
theorem c_X3_safeDrops (l : Launch) (D : va_G) (cI cC : ClassId) (td : Nat → Option Nat) (w : mvW) : ∀ z, f_X3_safeDrops w = some z → mv_Ci l D vwCl cI cC tbX td yX3_safeDrops wsX3_safeDrops rm_X3_safeDrops shX w [.inr (.inl 4)] z := by
  refine mv_starti (own := RX3) rfl (by decide) rfl rfl (L0 := [some (.inr (.inl 4)), none, none, none, none, none]) rfl (fun p e s m args below meth c A ad0 hX hr => ?_)
  rw [f_X3_safeDrops]
  refine ev_aload_n hX dX3_safeDrops_0 rfl ?_
  refine ev_getr (k := 0) hX (T := TX3) in_X3_safeDrops_X3 rfl rfl rfl (show Cond.fieldLink RX3 28 "FiveShogi$Rules" "position" "LFiveShogi$Position;" ∈ _ by decide +kernel) rfl dX3_safeDrops_1 ?_
  refine ev_callVi hX (k0 := 1) (As := []) (rm := rm_X2_sideToPlay) (c_X2_sideToPlay l D cI cC td w) (cwV 0 hX.ts gX3_safeDrops_X2_sideToPlay rfl rfl rfl (by decide +kernel) ⟨Nat.le_of_ble_eq_true rfl, Nat.le_of_ble_eq_true rfl⟩) rfl rfl rfl rfl rfl rfl ⟨Nat.le_of_ble_eq_true rfl, Nat.le_of_ble_eq_true rfl⟩ dX3_safeDrops_4 rfl (fun z1 hz1 => ?_)
  refine ev_istore_n hX dX3_safeDrops_7 rfl (L' := [some (.inr (.inl 4)), some (.inl z1.1), none, none, none, none]) rfl ?_
  refine ev_aload_n hX dX3_safeDrops_8 rfl ?_
  refine ev_getr (k := 0) hX (T := TX3) in_X3_safeDrops_X3 rfl rfl rfl (show Cond.fieldLink RX3 28 "FiveShogi$Rules" "position" "LFiveShogi$Position;" ∈ _ by decide +kernel) rfl dX3_safeDrops_9 ?_
  refine ev_iload_n hX dX3_safeDrops_12 rfl ?_
  refine ev_callVi hX (k0 := 1) (As := [.inl z1.1]) (rm := rm_X2_kingOf) (c_X2_kingOf l D cI cC td z1.1 z1.2) (cwV 1 hX.ts gX3_safeDrops_X2_kingOf rfl rfl rfl (by decide +kernel) ⟨Nat.le_of_ble_eq_true rfl, Nat.le_of_ble_eq_true rfl⟩) rfl rfl rfl rfl rfl rfl ⟨Nat.le_of_ble_eq_true rfl, Nat.le_of_ble_eq_true rfl⟩ dX3_safeDrops_13 rfl (fun z2 hz2 => ?_)
  refine ev_istore_n hX dX3_safeDrops_16 rfl (L' := [some (.inr (.inl 4)), some (.inl z1.1), some (.inl z2.1), none, none, none]) rfl ?_
  refine ev_aload_n hX dX3_safeDrops_17 rfl ?_
  refine ev_getr (k := 0) hX (T := TX3) in_X3_safeDrops_X3 rfl rfl rfl (show Cond.fieldLink RX3 28 "FiveShogi$Rules" "position" "LFiveShogi$Position;" ∈ _ by decide +kernel) rfl dX3_safeDrops_18 ?_
  refine ev_iconst hX dX3_safeDrops_21 (v := 1) (by decide +kernel) ?_
  refine ev_iload_n hX dX3_safeDrops_22 rfl ?_
  refine ev_isub hX dX3_safeDrops_23 ?_
  refine ev_iload_n hX dX3_safeDrops_24 rfl ?_
  refine ev_callVi hX (k0 := 1) (As := [.inl (1 - z1.1), .inl z2.1]) (rm := rm_X2_countAttackers) (c_X2_countAttackers l D cI cC td (1 - z1.1) z2.1 z2.2) (cwV 2 hX.ts gX3_safeDrops_X2_countAttackers rfl rfl rfl (by decide +kernel) ⟨Nat.le_of_ble_eq_true rfl, Nat.le_of_ble_eq_true rfl⟩) rfl rfl rfl rfl rfl rfl ⟨Nat.le_of_ble_eq_true rfl, Nat.le_of_ble_eq_true rfl⟩ dX3_safeDrops_25 rfl (fun z3 hz3 => ?_)
  refine ev_if_ne (tgt := 35) hX dX3_safeDrops_28 (by decide) ?_ ?_
  · refine ev_iconst hX dX3_safeDrops_35 (v := 0) (by decide +kernel) ?_
    refine ev_istore_n hX dX3_safeDrops_36 rfl (L' := [some (.inr (.inl 4)), some (.inl z1.1), some (.inl z2.1), some (.inl 0), none, none]) rfl ?_
    refine ev_iconst hX dX3_safeDrops_37 (v := 0) (by decide +kernel) ?_
    refine ev_istore hX dX3_safeDrops_38 rfl (L' := [some (.inr (.inl 4)), some (.inl z1.1), some (.inl z2.1), some (.inl 0), some (.inl 0), none]) rfl ?_
    refine ev_iconst hX dX3_safeDrops_40 (v := 0) (by decide +kernel) ?_
    refine ev_istore hX dX3_safeDrops_41 rfl (L' := [some (.inr (.inl 4)), some (.inl z1.1), some (.inl z2.1), some (.inl 0), some (.inl 0), some (.inl 0)]) rfl ?_
    refine ev_mask [true, true, true, true, true, true] (L' := [some (.inr (.inl 4)), some (.inl z1.1), some (.inl z2.1), some (.inl 0), some (.inl 0), some (.inl 0)]) rfl rfl ?_
    exact e_X3_safeDrops_43 hX hr 4096 z1.1 z2.1 0 0 0 z3.2
  · refine ev_iconst hX dX3_safeDrops_31 (v := 1) (by decide +kernel) ?_
    refine ev_goto (tgt := 36) hX dX3_safeDrops_32 (by decide) ?_
    refine ev_istore_n hX dX3_safeDrops_36 rfl (L' := [some (.inr (.inl 4)), some (.inl z1.1), some (.inl z2.1), some (.inl 1), none, none]) rfl ?_
    refine ev_iconst hX dX3_safeDrops_37 (v := 0) (by decide +kernel) ?_
    refine ev_istore hX dX3_safeDrops_38 rfl (L' := [some (.inr (.inl 4)), some (.inl z1.1), some (.inl z2.1), some (.inl 1), some (.inl 0), none]) rfl ?_
    refine ev_iconst hX dX3_safeDrops_40 (v := 0) (by decide +kernel) ?_
    refine ev_istore hX dX3_safeDrops_41 rfl (L' := [some (.inr (.inl 4)), some (.inl z1.1), some (.inl z2.1), some (.inl 1), some (.inl 0), some (.inl 0)]) rfl ?_
    refine ev_mask [true, true, true, true, true, true] (L' := [some (.inr (.inl 4)), some (.inl z1.1), some (.inl z2.1), some (.inl 1), some (.inl 0), some (.inl 0)]) rfl rfl ?_
    exact e_X3_safeDrops_43 hX hr 4096 z1.1 z2.1 1 0 0 z3.2
def rm_X4_lastRow : Room := { frames := 0, cells := 0, slots := 0, locals := 0 }
set_option maxHeartbeats 4000000 in
set_option maxRecDepth 100000 in
theorem c_X4_lastRow (l : Launch) (D : va_G) (cI cC : ClassId) (td : Nat → Option Nat) (a0 : Int32) (w : mvW) : ∀ z, f_X4_lastRow a0 w = some z → mv_Ci l D vwCl cI cC tbX td yX4_lastRow wsX4_lastRow rm_X4_lastRow shX w [.inl a0] z := by
  refine mv_starti (own := RX4) rfl (by decide) rfl rfl (L0 := [some (.inl a0)]) rfl (fun p e s m args below meth c A ad0 hX hr => ?_)
  rw [f_X4_lastRow]
  refine ev_iload_n hX dX4_lastRow_0 rfl ?_
  refine ev_if_ne (tgt := 9) hX dX4_lastRow_1 (by decide) ?_ ?_
  · refine ev_ldc hX (v := 32505856) dX4_lastRow_9 (by decide +kernel) ?_
    exact ev_ireti hX hr dX4_lastRow_11
  · refine ev_bipush hX dX4_lastRow_4 (v := 31) (by decide +kernel) ?_
    refine ev_goto (tgt := 11) hX dX4_lastRow_6 (by decide) ?_
    exact ev_ireti hX hr dX4_lastRow_11
def rm_X3_pawnColumns : Room := { frames := 1, cells := 0, slots := 0, locals := 21 }
set_option maxRecDepth 20000 in
theorem in_X3_pawnColumns_X3 : ∀ w ∈ u_ws RX3 TX3 6, w ∈ wsX3_pawnColumns := by decide +kernel
set_option maxHeartbeats 4000000 in
set_option maxRecDepth 100000 in
theorem e_X3_pawnColumns_4 (hX : mv_X p s m args meth c D vwCl cI cC tbX td A cX3_pawnColumns 4 RX3 wsX3_pawnColumns) (hr : meth.sig.returnType = (some .int)) : ∀ (n : Nat) (x1 : Int32) (x2 : Int32) (x3 : Int32) (w : mvW), EV p l e (headSpec wsX3_pawnColumns rm_X3_pawnColumns).room s m args below meth c D vwCl cI cC td A (fun a => a = ad0) (mv_Qi below args s D vwCl cI cC shX ad0 A) 0 0 shX [some (.inr (.inl 4)), some (.inl x1), some (.inl x2), some (.inl x3)] [] 4 w (f_X3_pawnColumns_4 n x1 x2 x3 w) := by
  intro n
  induction n with
  | zero => intro x1 x2 x3 w; exact ev_none
  | succ n ih =>
    intro x1 x2 x3 w
    rw [f_X3_pawnColumns_4]
    refine ev_iload_n hX dX3_pawnColumns_4 rfl ?_
    refine ev_bipush hX dX3_pawnColumns_5 (v := 25) (by decide +kernel) ?_
    refine ev_icmp_ge (tgt := 41) hX dX3_pawnColumns_7 (by decide) ?_ ?_
    · refine ev_iload_n hX dX3_pawnColumns_41 rfl ?_
      exact ev_ireti hX hr dX3_pawnColumns_42
    · refine ev_aload_n hX dX3_pawnColumns_10 rfl ?_
      refine ev_getr (k := 0) hX (T := TX3) in_X3_pawnColumns_X3 rfl rfl rfl (show Cond.fieldLink RX3 28 "FiveShogi$Rules" "position" "LFiveShogi$Position;" ∈ _ by decide +kernel) rfl dX3_pawnColumns_11 ?_
      refine ev_iload_n hX dX3_pawnColumns_14 rfl ?_
      refine ev_callVi hX (k0 := 1) (As := [.inl x3]) (rm := rm_X2_manOn) (c_X2_manOn l D cI cC td x3 w) (cwV 1 hX.ts gX3_pawnColumns_X2_manOn rfl rfl rfl (by decide +kernel) ⟨Nat.le_of_ble_eq_true rfl, Nat.le_of_ble_eq_true rfl⟩) rfl rfl rfl rfl rfl rfl ⟨Nat.le_of_ble_eq_true rfl, Nat.le_of_ble_eq_true rfl⟩ dX3_pawnColumns_15 rfl (fun z1 hz1 => ?_)
      refine ev_iload_n hX dX3_pawnColumns_18 rfl ?_
      refine ev_iconst hX dX3_pawnColumns_19 (v := 5) (by decide +kernel) ?_
      refine ev_callNi hX (As := [.inl x1, .inl 5]) (rm := rm_X4_manOf) (c_X4_manOf l D cI cC td x1 5 z1.2) ⟨va_cnB (host := "FiveShogi") 2 hX.ts gX3_pawnColumns_X4_manOf_n135 rfl rfl rfl (hX.sta.2.1 (_, 135, _, _) (List.mem_of_getElem? (i := 13) rfl)) (hX.ts _ (show Cond.initialized RX4 ∈ _ by decide +kernel)) (by decide +kernel) ⟨Nat.le_of_ble_eq_true rfl, Nat.le_of_ble_eq_true rfl⟩, hX.ts _ (show Cond.static yX4_manOf ∈ _ by decide +kernel), trivial⟩ rfl rfl rfl ⟨Nat.le_of_ble_eq_true rfl, Nat.le_of_ble_eq_true rfl⟩ dX3_pawnColumns_20 rfl (fun z2 hz2 => ?_)
      refine ev_icmp_ne (tgt := 35) hX dX3_pawnColumns_23 (by decide) ?_ ?_
      · refine ev_iinc hX dX3_pawnColumns_35 rfl (v := 1) (by decide +kernel) (L' := [some (.inr (.inl 4)), some (.inl x1), some (.inl x2), some (.inl (x3 + 1))]) rfl ?_
        refine ev_goto (tgt := 4) hX dX3_pawnColumns_38 (by decide) ?_
        refine ev_mask [true, true, true, true] (L' := [some (.inr (.inl 4)), some (.inl x1), some (.inl x2), some (.inl (x3 + 1))]) rfl rfl ?_
        exact ih x1 x2 (x3 + 1) z2.2
      · refine ev_iload_n hX dX3_pawnColumns_26 rfl ?_
        refine ev_ldc hX (v := 1082401) dX3_pawnColumns_27 (by decide +kernel) ?_
        refine ev_iload_n hX dX3_pawnColumns_29 rfl ?_
        refine ev_iconst hX dX3_pawnColumns_30 (v := 5) (by decide +kernel) ?_
        refine ev_irem hX dX3_pawnColumns_31 (by decide) ?_
        refine ev_ishl hX dX3_pawnColumns_32 ?_
        refine ev_ior hX dX3_pawnColumns_33 ?_
        refine ev_istore_n hX dX3_pawnColumns_34 rfl (L' := [some (.inr (.inl 4)), some (.inl x1), some (.inl (x2 ||| (1082401 <<< ((x3 - x3 / 5 * 5) &&& 31)))), some (.inl x3)]) rfl ?_
        refine ev_iinc hX dX3_pawnColumns_35 rfl (v := 1) (by decide +kernel) (L' := [some (.inr (.inl 4)), some (.inl x1), some (.inl (x2 ||| (1082401 <<< ((x3 - x3 / 5 * 5) &&& 31)))), some (.inl (x3 + 1))]) rfl ?_
        refine ev_goto (tgt := 4) hX dX3_pawnColumns_38 (by decide) ?_
        refine ev_mask [true, true, true, true] (L' := [some (.inr (.inl 4)), some (.inl x1), some (.inl (x2 ||| (1082401 <<< ((x3 - x3 / 5 * 5) &&& 31)))), some (.inl (x3 + 1))]) rfl rfl ?_
        exact ih x1 (x2 ||| (1082401 <<< ((x3 - x3 / 5 * 5) &&& 31))) (x3 + 1) z2.2
set_option maxHeartbeats 4000000 in
set_option maxRecDepth 100000 in
theorem c_X3_pawnColumns (l : Launch) (D : va_G) (cI cC : ClassId) (td : Nat → Option Nat) (a1 : Int32) (w : mvW) : ∀ z, f_X3_pawnColumns a1 w = some z → mv_Ci l D vwCl cI cC tbX td yX3_pawnColumns wsX3_pawnColumns rm_X3_pawnColumns shX w [.inr (.inl 4), .inl a1] z := by
  refine mv_starti (own := RX3) rfl (by decide) rfl rfl (L0 := [some (.inr (.inl 4)), some (.inl a1), none, none]) rfl (fun p e s m args below meth c A ad0 hX hr => ?_)
  rw [f_X3_pawnColumns]
  refine ev_iconst hX dX3_pawnColumns_0 (v := 0) (by decide +kernel) ?_
  refine ev_istore_n hX dX3_pawnColumns_1 rfl (L' := [some (.inr (.inl 4)), some (.inl a1), some (.inl 0), none]) rfl ?_
  refine ev_iconst hX dX3_pawnColumns_2 (v := 0) (by decide +kernel) ?_
  refine ev_istore_n hX dX3_pawnColumns_3 rfl (L' := [some (.inr (.inl 4)), some (.inl a1), some (.inl 0), some (.inl 0)]) rfl ?_
  refine ev_mask [true, true, true, true] (L' := [some (.inr (.inl 4)), some (.inl a1), some (.inl 0), some (.inl 0)]) rfl rfl ?_
  exact e_X3_pawnColumns_4 hX hr 4096 a1 0 0 w
def rm_X3_openToDrops : Room := { frames := 2, cells := 0, slots := 0, locals := 44 }
set_option maxRecDepth 20000 in
theorem in_X3_openToDrops_X3 : ∀ w ∈ u_ws RX3 TX3 6, w ∈ wsX3_openToDrops := by decide +kernel
set_option maxHeartbeats 4000000 in
set_option maxRecDepth 100000 in
theorem c_X3_openToDrops (l : Launch) (D : va_G) (cI cC : ClassId) (td : Nat → Option Nat) (a1 : Int32) (a2 : Int32) (w : mvW) : ∀ z, f_X3_openToDrops a1 a2 w = some z → mv_Ci l D vwCl cI cC tbX td yX3_openToDrops wsX3_openToDrops rm_X3_openToDrops shX w [.inr (.inl 4), .inl a1, .inl a2] z := by
  refine mv_starti (own := RX3) rfl (by decide) rfl rfl (L0 := [some (.inr (.inl 4)), some (.inl a1), some (.inl a2), none]) rfl (fun p e s m args below meth c A ad0 hX hr => ?_)
  rw [f_X3_openToDrops]
  refine ev_aload_n hX dX3_openToDrops_0 rfl ?_
  refine ev_getr (k := 0) hX (T := TX3) in_X3_openToDrops_X3 rfl rfl rfl (show Cond.fieldLink RX3 28 "FiveShogi$Rules" "position" "LFiveShogi$Position;" ∈ _ by decide +kernel) rfl dX3_openToDrops_1 ?_
  refine ev_callVi hX (k0 := 1) (As := []) (rm := rm_X2_sideToPlay) (c_X2_sideToPlay l D cI cC td w) (cwV 0 hX.ts gX3_openToDrops_X2_sideToPlay rfl rfl rfl (by decide +kernel) ⟨Nat.le_of_ble_eq_true rfl, Nat.le_of_ble_eq_true rfl⟩) rfl rfl rfl rfl rfl rfl ⟨Nat.le_of_ble_eq_true rfl, Nat.le_of_ble_eq_true rfl⟩ dX3_openToDrops_4 rfl (fun z1 hz1 => ?_)
  refine ev_istore_n hX dX3_openToDrops_7 rfl (L' := [some (.inr (.inl 4)), some (.inl a1), some (.inl a2), some (.inl z1.1)]) rfl ?_
  refine ev_aload_n hX dX3_openToDrops_8 rfl ?_
  refine ev_getr (k := 0) hX (T := TX3) in_X3_openToDrops_X3 rfl rfl rfl (show Cond.fieldLink RX3 28 "FiveShogi$Rules" "position" "LFiveShogi$Position;" ∈ _ by decide +kernel) rfl dX3_openToDrops_9 ?_
  refine ev_iload_n hX dX3_openToDrops_12 rfl ?_
  refine ev_iload_n hX dX3_openToDrops_13 rfl ?_
  refine ev_callVi hX (k0 := 1) (As := [.inl z1.1, .inl a1]) (rm := rm_X2_inHand) (c_X2_inHand l D cI cC td z1.1 a1 z1.2) (cwV 2 hX.ts gX3_openToDrops_X2_inHand rfl rfl rfl (by decide +kernel) ⟨Nat.le_of_ble_eq_true rfl, Nat.le_of_ble_eq_true rfl⟩) rfl rfl rfl rfl rfl rfl ⟨Nat.le_of_ble_eq_true rfl, Nat.le_of_ble_eq_true rfl⟩ dX3_openToDrops_14 rfl (fun z2 hz2 => ?_)
  refine ev_if_ne (tgt := 22) hX dX3_openToDrops_17 (by decide) ?_ ?_
  · refine ev_iload_n hX dX3_openToDrops_22 rfl ?_
    refine ev_iconst hX dX3_openToDrops_23 (v := 5) (by decide +kernel) ?_
    refine ev_icmp_ne (tgt := 46) hX dX3_openToDrops_24 (by decide) ?_ ?_
    · refine ev_iload_n hX dX3_openToDrops_46 rfl ?_
      exact ev_ireti hX hr dX3_openToDrops_47
    · refine ev_iload_n hX dX3_openToDrops_27 rfl ?_
      refine ev_iload_n hX dX3_openToDrops_28 rfl ?_
      refine ev_callNi hX (As := [.inl z1.1]) (rm := rm_X4_lastRow) (c_X4_lastRow l D cI cC td z1.1 z2.2) ⟨va_cnB (host := "FiveShogi") 1 hX.ts gX3_openToDrops_X4_lastRow_n95 rfl rfl rfl (hX.sta.2.1 (_, 95, _, _) (List.mem_of_getElem? (i := 11) rfl)) (hX.ts _ (show Cond.initialized RX4 ∈ _ by decide +kernel)) (by decide +kernel) ⟨Nat.le_of_ble_eq_true rfl, Nat.le_of_ble_eq_true rfl⟩, hX.ts _ (show Cond.static yX4_lastRow ∈ _ by decide +kernel), trivial⟩ rfl rfl rfl ⟨Nat.le_of_ble_eq_true rfl, Nat.le_of_ble_eq_true rfl⟩ dX3_openToDrops_29 rfl (fun z3 hz3 => ?_)
      refine ev_iconst hX dX3_openToDrops_32 (v := (-1)) (by decide +kernel) ?_
      refine ev_ixor hX dX3_openToDrops_33 ?_
      refine ev_iand hX dX3_openToDrops_34 ?_
      refine ev_aload_n hX dX3_openToDrops_35 rfl ?_
      refine ev_iload_n hX dX3_openToDrops_36 rfl ?_
      refine ev_callVi hX (k0 := 4) (As := [.inl z1.1]) (rm := rm_X3_pawnColumns) (c_X3_pawnColumns l D cI cC td z1.1 z3.2) (cwV 1 hX.ts gX3_openToDrops_X3_pawnColumns rfl rfl rfl (by decide +kernel) ⟨Nat.le_of_ble_eq_true rfl, Nat.le_of_ble_eq_true rfl⟩) rfl rfl rfl rfl rfl rfl ⟨Nat.le_of_ble_eq_true rfl, Nat.le_of_ble_eq_true rfl⟩ dX3_openToDrops_37 rfl (fun z4 hz4 => ?_)
      refine ev_iconst hX dX3_openToDrops_40 (v := (-1)) (by decide +kernel) ?_
      refine ev_ixor hX dX3_openToDrops_41 ?_
      refine ev_iand hX dX3_openToDrops_42 ?_
      refine ev_goto (tgt := 47) hX dX3_openToDrops_43 (by decide) ?_
      exact ev_ireti hX hr dX3_openToDrops_47
  · refine ev_iconst hX dX3_openToDrops_20 (v := 0) (by decide +kernel) ?_
    exact ev_ireti hX hr dX3_openToDrops_21
end
