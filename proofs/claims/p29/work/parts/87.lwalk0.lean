section
variable {p : Program} {l : Launch} {e : Env} {s : State} {m : MethodId} {args : Array Value} {below : List Frame} {meth : Method} {c : Code} {D : va_G} {cI cC : ClassId} {td : Nat → Option Nat} {A : Nat → Prop} {ad0 : Nat → Nat}
def rm_L_low : Room := { frames := 0, cells := 0, slots := 0, locals := 0 }
set_option maxHeartbeats 4000000 in
set_option maxRecDepth 100000 in
theorem c_L_low (l : Launch) (D : va_G) (cI cC : ClassId) (td : Nat → Option Nat) (a0 : Int32) (a1 : Int32) (w : mvW) : ∀ z, f_L_low a0 a1 w = some z → mv_Ci l D vwCl cI cC tbX td yL_low wsL_low rm_L_low shX w [.inl a0, .inl a1] z := by
  refine mv_starti (own := RL) rfl (by decide) rfl rfl (L0 := [some (.inl a0), some (.inl a1)]) rfl (fun p e s m args below meth c A ad0 hX hr => ?_)
  rw [f_L_low]
  refine ev_iload_n hX dL_low_0 rfl ?_
  refine ev_ldc hX (v := 2147483647) dL_low_1 (by decide +kernel) ?_
  refine ev_iand hX dL_low_3 ?_
  refine ev_iload_n hX dL_low_4 rfl ?_
  refine ev_iremv hX dL_low_5 (fun _ => ?_)
  exact ev_ireti hX hr dL_low_6
def rm_L_worth : Room := { frames := 0, cells := 0, slots := 0, locals := 0 }
set_option maxHeartbeats 4000000 in
set_option maxRecDepth 100000 in
theorem c_L_worth (l : Launch) (D : va_G) (cI cC : ClassId) (td : Nat → Option Nat) (a0 : Int32) (w : mvW) : ∀ z, f_L_worth a0 w = some z → mv_Ci l D vwCl cI cC tbX td yL_worth wsL_worth rm_L_worth shX w [.inl a0] z := by
  refine mv_starti (own := RL) rfl (by decide) rfl rfl (L0 := [some (.inl a0)]) rfl (fun p e s m args below meth c A ad0 hX hr => ?_)
  rw [f_L_worth]
  refine ev_iload_n hX dL_worth_0 rfl ?_
  refine ev_if_ne (tgt := 8) hX dL_worth_1 (by decide) ?_ ?_
  · refine ev_iload_n hX dL_worth_8 rfl ?_
    refine ev_iconst hX dL_worth_9 (v := 2) (by decide +kernel) ?_
    refine ev_icmp_ne (tgt := 17) hX dL_worth_10 (by decide) ?_ ?_
    · refine ev_iload_n hX dL_worth_17 rfl ?_
      refine ev_iconst hX dL_worth_18 (v := 3) (by decide +kernel) ?_
      refine ev_icmp_ne (tgt := 27) hX dL_worth_19 (by decide) ?_ ?_
      · refine ev_iload_n hX dL_worth_27 rfl ?_
        refine ev_iconst hX dL_worth_28 (v := 4) (by decide +kernel) ?_
        refine ev_icmp_ne (tgt := 37) hX dL_worth_29 (by decide) ?_ ?_
        · refine ev_iload_n hX dL_worth_37 rfl ?_
          refine ev_iconst hX dL_worth_38 (v := 5) (by decide +kernel) ?_
          refine ev_icmp_ne (tgt := 46) hX dL_worth_39 (by decide) ?_ ?_
          · refine ev_iload_n hX dL_worth_46 rfl ?_
            refine ev_bipush hX dL_worth_47 (v := 7) (by decide +kernel) ?_
            refine ev_icmp_ne (tgt := 57) hX dL_worth_49 (by decide) ?_ ?_
            · refine ev_iload_n hX dL_worth_57 rfl ?_
              refine ev_bipush hX dL_worth_58 (v := 8) (by decide +kernel) ?_
              refine ev_icmp_ne (tgt := 68) hX dL_worth_60 (by decide) ?_ ?_
              · refine ev_iload_n hX dL_worth_68 rfl ?_
                refine ev_bipush hX dL_worth_69 (v := 9) (by decide +kernel) ?_
                refine ev_icmp_ne (tgt := 78) hX dL_worth_71 (by decide) ?_ ?_
                · refine ev_bipush hX dL_worth_78 (v := 6) (by decide +kernel) ?_
                  exact ev_ireti hX hr dL_worth_80
                · refine ev_iconst hX dL_worth_74 (v := 4) (by decide +kernel) ?_
                  refine ev_goto (tgt := 80) hX dL_worth_75 (by decide) ?_
                  exact ev_ireti hX hr dL_worth_80
              · refine ev_bipush hX dL_worth_63 (v := 13) (by decide +kernel) ?_
                refine ev_goto (tgt := 80) hX dL_worth_65 (by decide) ?_
                exact ev_ireti hX hr dL_worth_80
            · refine ev_bipush hX dL_worth_52 (v := 11) (by decide +kernel) ?_
              refine ev_goto (tgt := 80) hX dL_worth_54 (by decide) ?_
              exact ev_ireti hX hr dL_worth_80
          · refine ev_iconst hX dL_worth_42 (v := 1) (by decide +kernel) ?_
            refine ev_goto (tgt := 80) hX dL_worth_43 (by decide) ?_
            exact ev_ireti hX hr dL_worth_80
        · refine ev_bipush hX dL_worth_32 (v := 10) (by decide +kernel) ?_
          refine ev_goto (tgt := 80) hX dL_worth_34 (by decide) ?_
          exact ev_ireti hX hr dL_worth_80
      · refine ev_bipush hX dL_worth_22 (v := 8) (by decide +kernel) ?_
        refine ev_goto (tgt := 80) hX dL_worth_24 (by decide) ?_
        exact ev_ireti hX hr dL_worth_80
    · refine ev_iconst hX dL_worth_13 (v := 5) (by decide +kernel) ?_
      refine ev_goto (tgt := 80) hX dL_worth_14 (by decide) ?_
      exact ev_ireti hX hr dL_worth_80
  · refine ev_iconst hX dL_worth_4 (v := 0) (by decide +kernel) ?_
    refine ev_goto (tgt := 80) hX dL_worth_5 (by decide) ?_
    exact ev_ireti hX hr dL_worth_80
def rm_L_men : Room := { frames := 8, cells := 0, slots := 0, locals := 190 }
set_option maxHeartbeats 4000000 in
set_option maxRecDepth 100000 in
theorem c_L_men_0 (l : Launch) (D : va_G) (cI cC : ClassId) (td : Nat → Option Nat) (w : mvW) : ∀ z, f_L_men_0 w = some z → mv_Ci l D vwCl cI cC tbX td yL_men wsL_men rm_L_men shX w [.inr (.inl 0)] z := by
  refine mv_starti (own := RL) rfl (by decide) rfl rfl (L0 := [some (.inr (.inl 0))]) rfl (fun p e s m args below meth c A ad0 hX hr => ?_)
  rw [f_L_men_0]
  refine ev_aload_n hX dL_men_0 rfl ?_
  refine ev_iconst hX dL_men_1 (v := 1) (by decide +kernel) ?_
  refine ev_callVi hX (k0 := 0) (As := [.inl 1]) (rm := rm_X4_total) (c_X4_total l D cI cC td 1 w) (cwV 1 hX.ts gL_men_X4_total rfl rfl rfl (by decide +kernel) ⟨Nat.le_of_ble_eq_true rfl, Nat.le_of_ble_eq_true rfl⟩) rfl rfl rfl rfl rfl rfl ⟨Nat.le_of_ble_eq_true rfl, Nat.le_of_ble_eq_true rfl⟩ dL_men_2 rfl (fun z1 hz1 => ?_)
  refine ev_aload_n hX dL_men_5 rfl ?_
  refine ev_iconst hX dL_men_6 (v := 2) (by decide +kernel) ?_
  refine ev_callVi hX (k0 := 0) (As := [.inl 2]) (rm := rm_X4_total) (c_X4_total l D cI cC td 2 z1.2) (cwV 1 hX.ts gL_men_X4_total rfl rfl rfl (by decide +kernel) ⟨Nat.le_of_ble_eq_true rfl, Nat.le_of_ble_eq_true rfl⟩) rfl rfl rfl rfl rfl rfl ⟨Nat.le_of_ble_eq_true rfl, Nat.le_of_ble_eq_true rfl⟩ dL_men_7 rfl (fun z2 hz2 => ?_)
  refine ev_iadd hX dL_men_10 ?_
  refine ev_aload_n hX dL_men_11 rfl ?_
  refine ev_iconst hX dL_men_12 (v := 3) (by decide +kernel) ?_
  refine ev_callVi hX (k0 := 0) (As := [.inl 3]) (rm := rm_X4_total) (c_X4_total l D cI cC td 3 z2.2) (cwV 1 hX.ts gL_men_X4_total rfl rfl rfl (by decide +kernel) ⟨Nat.le_of_ble_eq_true rfl, Nat.le_of_ble_eq_true rfl⟩) rfl rfl rfl rfl rfl rfl ⟨Nat.le_of_ble_eq_true rfl, Nat.le_of_ble_eq_true rfl⟩ dL_men_13 rfl (fun z3 hz3 => ?_)
  refine ev_iadd hX dL_men_16 ?_
  exact ev_ireti hX hr dL_men_17
def rm_L_king : Room := { frames := 2, cells := 0, slots := 0, locals := 43 }
set_option maxHeartbeats 4000000 in
set_option maxRecDepth 100000 in
theorem e_L_king_0_4 (hX : mv_X p s m args meth c D vwCl cI cC tbX td A cL_king 4 RL wsL_king) (hr : meth.sig.returnType = (some .int)) : ∀ (n : Nat) (x1 : Int32) (x2 : Int32) (x3 : Int32) (w : mvW), EV p l e (headSpec wsL_king rm_L_king).room s m args below meth c D vwCl cI cC td A (fun a => a = ad0) (mv_Qi below args s D vwCl cI cC shX ad0 A) 0 0 shX [some (.inr (.inl 0)), some (.inl x1), some (.inl x2), some (.inl x3)] [] 4 w (f_L_king_0_4 n x1 x2 x3 w) := by
  intro n
  induction n with
  | zero => intro x1 x2 x3 w; exact ev_none
  | succ n ih =>
    intro x1 x2 x3 w
    rw [f_L_king_0_4]
    refine ev_iload_n hX dL_king_4 rfl ?_
    refine ev_bipush hX dL_king_5 (v := 25) (by decide +kernel) ?_
    refine ev_icmp_ge (tgt := 34) hX dL_king_7 (by decide) ?_ ?_
    · refine ev_iload_n hX dL_king_34 rfl ?_
      exact ev_ireti hX hr dL_king_35
    · refine ev_aload_n hX dL_king_10 rfl ?_
      refine ev_iload_n hX dL_king_11 rfl ?_
      refine ev_callVi hX (k0 := 0) (As := [.inl x3]) (rm := rm_X4_man) (c_X4_man l D cI cC td x3 w) (cwV 1 hX.ts gL_king_X4_man rfl rfl rfl (by decide +kernel) ⟨Nat.le_of_ble_eq_true rfl, Nat.le_of_ble_eq_true rfl⟩) rfl rfl rfl rfl rfl rfl ⟨Nat.le_of_ble_eq_true rfl, Nat.le_of_ble_eq_true rfl⟩ dL_king_12 rfl (fun z1 hz1 => ?_)
      refine ev_bipush hX dL_king_15 (v := 10) (by decide +kernel) ?_
      refine ev_iload_n hX dL_king_17 rfl ?_
      refine ev_imul hX dL_king_18 ?_
      refine ev_icmp_ne (tgt := 26) hX dL_king_19 (by decide) ?_ ?_
      · refine ev_iload_n hX dL_king_26 rfl ?_
        refine ev_istore_n hX dL_king_27 rfl (L' := [some (.inr (.inl 0)), some (.inl x1), some (.inl x2), some (.inl x3)]) rfl ?_
        refine ev_iinc hX dL_king_28 rfl (v := 1) (by decide +kernel) (L' := [some (.inr (.inl 0)), some (.inl x1), some (.inl x2), some (.inl (x3 + 1))]) rfl ?_
        refine ev_goto (tgt := 4) hX dL_king_31 (by decide) ?_
        refine ev_mask [true, true, true, true] (L' := [some (.inr (.inl 0)), some (.inl x1), some (.inl x2), some (.inl (x3 + 1))]) rfl rfl ?_
        exact ih x1 x2 (x3 + 1) z1.2
      · refine ev_iload_n hX dL_king_22 rfl ?_
        refine ev_goto (tgt := 27) hX dL_king_23 (by decide) ?_
        refine ev_istore_n hX dL_king_27 rfl (L' := [some (.inr (.inl 0)), some (.inl x1), some (.inl x3), some (.inl x3)]) rfl ?_
        refine ev_iinc hX dL_king_28 rfl (v := 1) (by decide +kernel) (L' := [some (.inr (.inl 0)), some (.inl x1), some (.inl x3), some (.inl (x3 + 1))]) rfl ?_
        refine ev_goto (tgt := 4) hX dL_king_31 (by decide) ?_
        refine ev_mask [true, true, true, true] (L' := [some (.inr (.inl 0)), some (.inl x1), some (.inl x3), some (.inl (x3 + 1))]) rfl rfl ?_
        exact ih x1 x3 (x3 + 1) z1.2
set_option maxHeartbeats 4000000 in
set_option maxRecDepth 100000 in
theorem c_L_king_0 (l : Launch) (D : va_G) (cI cC : ClassId) (td : Nat → Option Nat) (a1 : Int32) (w : mvW) : ∀ z, f_L_king_0 a1 w = some z → mv_Ci l D vwCl cI cC tbX td yL_king wsL_king rm_L_king shX w [.inr (.inl 0), .inl a1] z := by
  refine mv_starti (own := RL) rfl (by decide) rfl rfl (L0 := [some (.inr (.inl 0)), some (.inl a1), none, none]) rfl (fun p e s m args below meth c A ad0 hX hr => ?_)
  rw [f_L_king_0]
  refine ev_iconst hX dL_king_0 (v := (-1)) (by decide +kernel) ?_
  refine ev_istore_n hX dL_king_1 rfl (L' := [some (.inr (.inl 0)), some (.inl a1), some (.inl (-1)), none]) rfl ?_
  refine ev_iconst hX dL_king_2 (v := 0) (by decide +kernel) ?_
  refine ev_istore_n hX dL_king_3 rfl (L' := [some (.inr (.inl 0)), some (.inl a1), some (.inl (-1)), some (.inl 0)]) rfl ?_
  refine ev_mask [true, true, true, true] (L' := [some (.inr (.inl 0)), some (.inl a1), some (.inl (-1)), some (.inl 0)]) rfl rfl ?_
  exact e_L_king_0_4 hX hr 4096 a1 (-1) 0 w
def rm_L_isChecked : Room := { frames := 3, cells := 0, slots := 0, locals := 66 }
set_option maxHeartbeats 4000000 in
set_option maxRecDepth 100000 in
theorem c_L_isChecked_0 (l : Launch) (D : va_G) (cI cC : ClassId) (td : Nat → Option Nat) (a1 : Int32) (w : mvW) : ∀ z, f_L_isChecked_0 a1 w = some z → mv_Ci l D vwCl cI cC tbX td yL_isChecked wsL_isChecked rm_L_isChecked shX w [.inr (.inl 0), .inl a1] z := by
  refine mv_starti (own := RL) rfl (by decide) rfl rfl (L0 := [some (.inr (.inl 0)), some (.inl a1), none]) rfl (fun p e s m args below meth c A ad0 hX hr => ?_)
  rw [f_L_isChecked_0]
  refine ev_aload_n hX dL_isChecked_0 rfl ?_
  refine ev_iload_n hX dL_isChecked_1 rfl ?_
  refine ev_callSi hX (As := [.inr (.inl 0), .inl a1]) (rm := rm_L_king) (c_L_king_0 l D cI cC td a1 w) (cwS 2 hX.ts gL_isChecked_L_king rfl rfl rfl (by decide +kernel) ⟨Nat.le_of_ble_eq_true rfl, Nat.le_of_ble_eq_true rfl⟩) rfl rfl rfl ⟨Nat.le_of_ble_eq_true rfl, Nat.le_of_ble_eq_true rfl⟩ dL_isChecked_2 rfl (fun z1 hz1 => ?_)
  refine ev_istore_n hX dL_isChecked_5 rfl (L' := [some (.inr (.inl 0)), some (.inl a1), some (.inl z1.1)]) rfl ?_
  refine ev_iload_n hX dL_isChecked_6 rfl ?_
  refine ev_if_lt (tgt := 25) hX dL_isChecked_7 (by decide) ?_ ?_
  · refine ev_iconst hX dL_isChecked_25 (v := 0) (by decide +kernel) ?_
    exact ev_iretz0 hX hr dL_isChecked_26
  · refine ev_aload_n hX dL_isChecked_10 rfl ?_
    refine ev_iconst hX dL_isChecked_11 (v := 1) (by decide +kernel) ?_
    refine ev_iload_n hX dL_isChecked_12 rfl ?_
    refine ev_isub hX dL_isChecked_13 ?_
    refine ev_iload_n hX dL_isChecked_14 rfl ?_
    refine ev_callVi hX (k0 := 0) (As := [.inl (1 - a1), .inl z1.1]) (rm := rm_X4_attackers) (c_X4_attackers l D cI cC td (1 - a1) z1.1 z1.2) (cwV 2 hX.ts gL_isChecked_X4_attackers rfl rfl rfl (by decide +kernel) ⟨Nat.le_of_ble_eq_true rfl, Nat.le_of_ble_eq_true rfl⟩) rfl rfl rfl rfl rfl rfl ⟨Nat.le_of_ble_eq_true rfl, Nat.le_of_ble_eq_true rfl⟩ dL_isChecked_15 rfl (fun z2 hz2 => ?_)
    refine ev_if_le (tgt := 25) hX dL_isChecked_18 (by decide) ?_ ?_
    · refine ev_iconst hX dL_isChecked_25 (v := 0) (by decide +kernel) ?_
      exact ev_iretz0 hX hr dL_isChecked_26
    · refine ev_iconst hX dL_isChecked_21 (v := 1) (by decide +kernel) ?_
      refine ev_goto (tgt := 26) hX dL_isChecked_22 (by decide) ?_
      exact ev_iretz1 hX hr dL_isChecked_26
def rm_L_areMen : Room := { frames := 8, cells := 0, slots := 0, locals := 190 }
set_option maxHeartbeats 4000000 in
set_option maxRecDepth 100000 in
theorem e_L_areMen_0_275 (hX : mv_X p s m args meth c D vwCl cI cC tbX td A cL_areMen 7 RL wsL_areMen) (hr : meth.sig.returnType = (some .boolean)) (x5 : Int32) (s0 : Int32) (w : mvW) : EV p l e (headSpec wsL_areMen rm_L_areMen).room s m args below meth c D vwCl cI cC td A (fun a => a = ad0) (mv_Qi below args s D vwCl cI cC shX ad0 A) 0 0 shX [some (.inr (.inl 0)), none, none, none, none, some (.inl x5), none] [.inl s0] 275 w (f_L_areMen_0_275 x5 s0 w) := by
  rw [f_L_areMen_0_275]
  refine ev_istore hX dL_areMen_275 rfl (L' := [some (.inr (.inl 0)), none, none, none, none, some (.inl x5), some (.inl s0)]) rfl ?_
  refine ev_iload hX dL_areMen_277 rfl ?_
  refine ev_if_eq (tgt := 308) hX dL_areMen_279 (by decide) ?_ ?_
  · refine ev_iconst hX dL_areMen_308 (v := 0) (by decide +kernel) ?_
    exact ev_iretz0 hX hr dL_areMen_309
  · refine ev_aload_n hX dL_areMen_282 rfl ?_
    refine ev_iconst hX dL_areMen_283 (v := 4) (by decide +kernel) ?_
    refine ev_callVi hX (k0 := 0) (As := [.inl 4]) (rm := rm_X4_total) (c_X4_total l D cI cC td 4 w) (cwV 1 hX.ts gL_areMen_X4_total rfl rfl rfl (by decide +kernel) ⟨Nat.le_of_ble_eq_true rfl, Nat.le_of_ble_eq_true rfl⟩) rfl rfl rfl rfl rfl rfl ⟨Nat.le_of_ble_eq_true rfl, Nat.le_of_ble_eq_true rfl⟩ dL_areMen_284 rfl (fun z11 hz11 => ?_)
    refine ev_aload_n hX dL_areMen_287 rfl ?_
    refine ev_iload hX dL_areMen_288 rfl ?_
    refine ev_callSi hX (As := [.inr (.inl 0), .inl x5]) (rm := rm_L_isChecked) (c_L_isChecked_0 l D cI cC td x5 z11.2) (cwS 2 hX.ts gL_areMen_L_isChecked rfl rfl rfl (by decide +kernel) ⟨Nat.le_of_ble_eq_true rfl, Nat.le_of_ble_eq_true rfl⟩) rfl rfl rfl ⟨Nat.le_of_ble_eq_true rfl, Nat.le_of_ble_eq_true rfl⟩ dL_areMen_290 rfl (fun z12 hz12 => ?_)
    refine ev_if_eq (tgt := 300) hX dL_areMen_293 (by decide) ?_ ?_
    · refine ev_iconst hX dL_areMen_300 (v := 0) (by decide +kernel) ?_
      refine ev_icmp_ne (tgt := 308) hX dL_areMen_301 (by decide) ?_ ?_
      · refine ev_iconst hX dL_areMen_308 (v := 0) (by decide +kernel) ?_
        exact ev_iretz0 hX hr dL_areMen_309
      · refine ev_iconst hX dL_areMen_304 (v := 1) (by decide +kernel) ?_
        refine ev_goto (tgt := 309) hX dL_areMen_305 (by decide) ?_
        exact ev_iretz1 hX hr dL_areMen_309
    · refine ev_iconst hX dL_areMen_296 (v := 1) (by decide +kernel) ?_
      refine ev_goto (tgt := 301) hX dL_areMen_297 (by decide) ?_
      refine ev_icmp_ne (tgt := 308) hX dL_areMen_301 (by decide) ?_ ?_
      · refine ev_iconst hX dL_areMen_308 (v := 0) (by decide +kernel) ?_
        exact ev_iretz0 hX hr dL_areMen_309
      · refine ev_iconst hX dL_areMen_304 (v := 1) (by decide +kernel) ?_
        refine ev_goto (tgt := 309) hX dL_areMen_305 (by decide) ?_
        exact ev_iretz1 hX hr dL_areMen_309
set_option maxHeartbeats 4000000 in
set_option maxRecDepth 100000 in
theorem e_L_areMen_0_182 (hX : mv_X p s m args meth c D vwCl cI cC tbX td A cL_areMen 7 RL wsL_areMen) (hr : meth.sig.returnType = (some .boolean)) (k127 : Int32 → Int32 → Int32 → Int32 → Int32 → mvW → Option (Int32 × mvW)) (hk127 : ∀ (x1 : Int32) (x2 : Int32) (x3 : Int32) (x4 : Int32) (x5 : Int32) (w : mvW), EV p l e (headSpec wsL_areMen rm_L_areMen).room s m args below meth c D vwCl cI cC td A (fun a => a = ad0) (mv_Qi below args s D vwCl cI cC shX ad0 A) 0 0 shX [some (.inr (.inl 0)), some (.inl x1), some (.inl x2), some (.inl x3), some (.inl x4), some (.inl x5), none] [] 127 w (k127 x1 x2 x3 x4 x5 w)) (x1 : Int32) (x3 : Int32) (x4 : Int32) (x5 : Int32) (x6 : Int32) (s0 : Int32) (s1 : Int32) (w : mvW) : EV p l e (headSpec wsL_areMen rm_L_areMen).room s m args below meth c D vwCl cI cC td A (fun a => a = ad0) (mv_Qi below args s D vwCl cI cC shX ad0 A) 0 0 shX [some (.inr (.inl 0)), some (.inl x1), none, some (.inl x3), some (.inl x4), some (.inl x5), some (.inl x6)] [.inl s0, .inl s1] 182 w (f_L_areMen_0_182 k127 x1 x3 x4 x5 x6 s0 s1 w) := by
  rw [f_L_areMen_0_182]
  refine ev_iconst hX dL_areMen_182 (v := 1) (by decide +kernel) ?_
  refine ev_iload hX dL_areMen_183 rfl ?_
  refine ev_iconst hX dL_areMen_185 (v := 5) (by decide +kernel) ?_
  refine ev_irem hX dL_areMen_186 (by decide) ?_
  refine ev_iadd hX dL_areMen_187 ?_
  refine ev_callSi hX (As := [.inl (1 + (x5 - x5 / 5 * 5))]) (rm := rm_L_worth) (c_L_worth l D cI cC td (1 + (x5 - x5 / 5 * 5)) w) (cwS 1 hX.ts gL_areMen_L_worth rfl rfl rfl (by decide +kernel) ⟨Nat.le_of_ble_eq_true rfl, Nat.le_of_ble_eq_true rfl⟩) rfl rfl rfl ⟨Nat.le_of_ble_eq_true rfl, Nat.le_of_ble_eq_true rfl⟩ dL_areMen_188 rfl (fun z13 hz13 => ?_)
  refine ev_iconst hX dL_areMen_191 (v := 1) (by decide +kernel) ?_
  refine ev_iadd hX dL_areMen_192 ?_
  refine ev_imul hX dL_areMen_193 ?_
  refine ev_iadd hX dL_areMen_194 ?_
  refine ev_istore_n hX dL_areMen_195 rfl (L' := [some (.inr (.inl 0)), some (.inl x1), some (.inl (s1 + (s0 * (z13.1 + 1)))), some (.inl x3), some (.inl x4), some (.inl x5), some (.inl x6)]) rfl ?_
  refine ev_iload hX dL_areMen_196 rfl ?_
  refine ev_if_ge (tgt := 203) hX dL_areMen_198 (by decide) ?_ ?_
  · refine ev_iinc hX dL_areMen_203 rfl (v := 1) (by decide +kernel) (L' := [some (.inr (.inl 0)), some (.inl x1), some (.inl (s1 + (s0 * (z13.1 + 1)))), some (.inl x3), some (.inl x4), some (.inl (x5 + 1)), some (.inl x6)]) rfl ?_
    refine ev_goto (tgt := 127) hX dL_areMen_206 (by decide) ?_
    refine ev_mask [true, true, true, true, true, true, false] (L' := [some (.inr (.inl 0)), some (.inl x1), some (.inl (s1 + (s0 * (z13.1 + 1)))), some (.inl x3), some (.inl x4), some (.inl (x5 + 1)), none]) rfl rfl ?_
    exact hk127 x1 (s1 + (s0 * (z13.1 + 1))) x3 x4 (x5 + 1) z13.2
  · refine ev_iconst hX dL_areMen_201 (v := 0) (by decide +kernel) ?_
    exact ev_iretz0 hX hr dL_areMen_202
set_option maxHeartbeats 4000000 in
set_option maxRecDepth 100000 in
theorem e_L_areMen_0_164 (hX : mv_X p s m args meth c D vwCl cI cC tbX td A cL_areMen 7 RL wsL_areMen) (hr : meth.sig.returnType = (some .boolean)) (k127 : Int32 → Int32 → Int32 → Int32 → Int32 → mvW → Option (Int32 × mvW)) (hk127 : ∀ (x1 : Int32) (x2 : Int32) (x3 : Int32) (x4 : Int32) (x5 : Int32) (w : mvW), EV p l e (headSpec wsL_areMen rm_L_areMen).room s m args below meth c D vwCl cI cC td A (fun a => a = ad0) (mv_Qi below args s D vwCl cI cC shX ad0 A) 0 0 shX [some (.inr (.inl 0)), some (.inl x1), some (.inl x2), some (.inl x3), some (.inl x4), some (.inl x5), none] [] 127 w (k127 x1 x2 x3 x4 x5 w)) (x1 : Int32) (x2 : Int32) (x3 : Int32) (x5 : Int32) (x6 : Int32) (s0 : Int32) (s1 : Int32) (w : mvW) : EV p l e (headSpec wsL_areMen rm_L_areMen).room s m args below meth c D vwCl cI cC td A (fun a => a = ad0) (mv_Qi below args s D vwCl cI cC shX ad0 A) 0 0 shX [some (.inr (.inl 0)), some (.inl x1), some (.inl x2), some (.inl x3), none, some (.inl x5), some (.inl x6)] [.inl s0, .inl s1] 164 w (f_L_areMen_0_164 k127 x1 x2 x3 x5 x6 s0 s1 w) := by
  rw [f_L_areMen_0_164]
  refine ev_iadd hX dL_areMen_164 ?_
  refine ev_istore hX dL_areMen_165 rfl (L' := [some (.inr (.inl 0)), some (.inl x1), some (.inl x2), some (.inl x3), some (.inl (s1 + s0)), some (.inl x5), some (.inl x6)]) rfl ?_
  refine ev_iload_n hX dL_areMen_167 rfl ?_
  refine ev_iload hX dL_areMen_168 rfl ?_
  refine ev_iconst hX dL_areMen_170 (v := 5) (by decide +kernel) ?_
  refine ev_icmp_ge (tgt := 179) hX dL_areMen_171 (by decide) ?_ ?_
  · refine ev_iload hX dL_areMen_179 rfl ?_
    refine ev_ineg hX dL_areMen_181 ?_
    refine ev_mask [true, true, false, true, true, true, true] (L' := [some (.inr (.inl 0)), some (.inl x1), none, some (.inl x3), some (.inl (s1 + s0)), some (.inl x5), some (.inl x6)]) rfl rfl ?_
    exact e_L_areMen_0_182 hX hr k127 hk127 x1 x3 (s1 + s0) x5 x6 (-x6) x2 w
  · refine ev_iload hX dL_areMen_174 rfl ?_
    refine ev_goto (tgt := 182) hX dL_areMen_176 (by decide) ?_
    refine ev_mask [true, true, false, true, true, true, true] (L' := [some (.inr (.inl 0)), some (.inl x1), none, some (.inl x3), some (.inl (s1 + s0)), some (.inl x5), some (.inl x6)]) rfl rfl ?_
    exact e_L_areMen_0_182 hX hr k127 hk127 x1 x3 (s1 + s0) x5 x6 x6 x2 w
set_option maxHeartbeats 4000000 in
set_option maxRecDepth 100000 in
theorem e_L_areMen_0_127 (hX : mv_X p s m args meth c D vwCl cI cC tbX td A cL_areMen 7 RL wsL_areMen) (hr : meth.sig.returnType = (some .boolean)) : ∀ (n : Nat) (x1 : Int32) (x2 : Int32) (x3 : Int32) (x4 : Int32) (x5 : Int32) (w : mvW), EV p l e (headSpec wsL_areMen rm_L_areMen).room s m args below meth c D vwCl cI cC td A (fun a => a = ad0) (mv_Qi below args s D vwCl cI cC shX ad0 A) 0 0 shX [some (.inr (.inl 0)), some (.inl x1), some (.inl x2), some (.inl x3), some (.inl x4), some (.inl x5), none] [] 127 w (f_L_areMen_0_127 n x1 x2 x3 x4 x5 w) := by
  intro n
  induction n with
  | zero => intro x1 x2 x3 x4 x5 w; exact ev_none
  | succ n ih =>
    intro x1 x2 x3 x4 x5 w
    rw [f_L_areMen_0_127]
    refine ev_iload hX dL_areMen_127 rfl ?_
    refine ev_bipush hX dL_areMen_129 (v := 10) (by decide +kernel) ?_
    refine ev_icmp_ge (tgt := 209) hX dL_areMen_131 (by decide) ?_ ?_
    · refine ev_aload_n hX dL_areMen_209 rfl ?_
      refine ev_iconst hX dL_areMen_210 (v := 0) (by decide +kernel) ?_
      refine ev_callVi hX (k0 := 0) (As := [.inl 0]) (rm := rm_X4_total) (c_X4_total l D cI cC td 0 w) (cwV 1 hX.ts gL_areMen_X4_total rfl rfl rfl (by decide +kernel) ⟨Nat.le_of_ble_eq_true rfl, Nat.le_of_ble_eq_true rfl⟩) rfl rfl rfl rfl rfl rfl ⟨Nat.le_of_ble_eq_true rfl, Nat.le_of_ble_eq_true rfl⟩ dL_areMen_211 rfl (fun z5 hz5 => ?_)
      refine ev_istore hX dL_areMen_214 rfl (L' := [some (.inr (.inl 0)), some (.inl x1), some (.inl x2), some (.inl x3), some (.inl x4), some (.inl z5.1), none]) rfl ?_
      refine ev_aload_n hX dL_areMen_216 rfl ?_
      refine ev_iconst hX dL_areMen_217 (v := 1) (by decide +kernel) ?_
      refine ev_callVi hX (k0 := 0) (As := [.inl 1]) (rm := rm_X4_total) (c_X4_total l D cI cC td 1 z5.2) (cwV 1 hX.ts gL_areMen_X4_total rfl rfl rfl (by decide +kernel) ⟨Nat.le_of_ble_eq_true rfl, Nat.le_of_ble_eq_true rfl⟩) rfl rfl rfl rfl rfl rfl ⟨Nat.le_of_ble_eq_true rfl, Nat.le_of_ble_eq_true rfl⟩ dL_areMen_218 rfl (fun z6 hz6 => ?_)
      refine ev_iload_n hX dL_areMen_221 rfl ?_
      refine ev_icmp_ne (tgt := 274) hX dL_areMen_222 (by decide) ?_ ?_
      · refine ev_iconst hX dL_areMen_274 (v := 0) (by decide +kernel) ?_
        refine ev_mask [true, false, false, false, false, true, false] (L' := [some (.inr (.inl 0)), none, none, none, none, some (.inl z5.1), none]) rfl rfl ?_
        exact e_L_areMen_0_275 hX hr z5.1 0 z6.2
      · refine ev_aload_n hX dL_areMen_225 rfl ?_
        refine ev_iconst hX dL_areMen_226 (v := 2) (by decide +kernel) ?_
        refine ev_callVi hX (k0 := 0) (As := [.inl 2]) (rm := rm_X4_total) (c_X4_total l D cI cC td 2 z6.2) (cwV 1 hX.ts gL_areMen_X4_total rfl rfl rfl (by decide +kernel) ⟨Nat.le_of_ble_eq_true rfl, Nat.le_of_ble_eq_true rfl⟩) rfl rfl rfl rfl rfl rfl ⟨Nat.le_of_ble_eq_true rfl, Nat.le_of_ble_eq_true rfl⟩ dL_areMen_227 rfl (fun z7 hz7 => ?_)
        refine ev_iload hX dL_areMen_230 rfl ?_
        refine ev_icmp_ne (tgt := 274) hX dL_areMen_232 (by decide) ?_ ?_
        · refine ev_iconst hX dL_areMen_274 (v := 0) (by decide +kernel) ?_
          refine ev_mask [true, false, false, false, false, true, false] (L' := [some (.inr (.inl 0)), none, none, none, none, some (.inl z5.1), none]) rfl rfl ?_
          exact e_L_areMen_0_275 hX hr z5.1 0 z7.2
        · refine ev_aload_n hX dL_areMen_235 rfl ?_
          refine ev_iconst hX dL_areMen_236 (v := 0) (by decide +kernel) ?_
          refine ev_callVi hX (k0 := 0) (As := [.inl 0]) (rm := rm_X4_worth) (c_X4_worth l D cI cC td 0 z7.2) (cwV 1 hX.ts gL_areMen_X4_worth rfl rfl rfl (by decide +kernel) ⟨Nat.le_of_ble_eq_true rfl, Nat.le_of_ble_eq_true rfl⟩) rfl rfl rfl rfl rfl rfl ⟨Nat.le_of_ble_eq_true rfl, Nat.le_of_ble_eq_true rfl⟩ dL_areMen_237 rfl (fun z8 hz8 => ?_)
          refine ev_iload_n hX dL_areMen_240 rfl ?_
          refine ev_icmp_ne (tgt := 274) hX dL_areMen_241 (by decide) ?_ ?_
          · refine ev_iconst hX dL_areMen_274 (v := 0) (by decide +kernel) ?_
            refine ev_mask [true, false, false, false, false, true, false] (L' := [some (.inr (.inl 0)), none, none, none, none, some (.inl z5.1), none]) rfl rfl ?_
            exact e_L_areMen_0_275 hX hr z5.1 0 z8.2
          · refine ev_aload_n hX dL_areMen_244 rfl ?_
            refine ev_iconst hX dL_areMen_245 (v := 1) (by decide +kernel) ?_
            refine ev_callVi hX (k0 := 0) (As := [.inl 1]) (rm := rm_X4_worth) (c_X4_worth l D cI cC td 1 z8.2) (cwV 1 hX.ts gL_areMen_X4_worth rfl rfl rfl (by decide +kernel) ⟨Nat.le_of_ble_eq_true rfl, Nat.le_of_ble_eq_true rfl⟩) rfl rfl rfl rfl rfl rfl ⟨Nat.le_of_ble_eq_true rfl, Nat.le_of_ble_eq_true rfl⟩ dL_areMen_246 rfl (fun z9 hz9 => ?_)
            refine ev_iload_n hX dL_areMen_249 rfl ?_
            refine ev_ineg hX dL_areMen_250 ?_
            refine ev_icmp_ne (tgt := 274) hX dL_areMen_251 (by decide) ?_ ?_
            · refine ev_iconst hX dL_areMen_274 (v := 0) (by decide +kernel) ?_
              refine ev_mask [true, false, false, false, false, true, false] (L' := [some (.inr (.inl 0)), none, none, none, none, some (.inl z5.1), none]) rfl rfl ?_
              exact e_L_areMen_0_275 hX hr z5.1 0 z9.2
            · refine ev_iload_n hX dL_areMen_254 rfl ?_
              refine ev_bipush hX dL_areMen_255 (v := 10) (by decide +kernel) ?_
              refine ev_irem hX dL_areMen_257 (by decide) ?_
              refine ev_iconst hX dL_areMen_258 (v := 2) (by decide +kernel) ?_
              refine ev_icmp_ge (tgt := 274) hX dL_areMen_259 (by decide) ?_ ?_
              · refine ev_iconst hX dL_areMen_274 (v := 0) (by decide +kernel) ?_
                refine ev_mask [true, false, false, false, false, true, false] (L' := [some (.inr (.inl 0)), none, none, none, none, some (.inl z5.1), none]) rfl rfl ?_
                exact e_L_areMen_0_275 hX hr z5.1 0 z9.2
              · refine ev_iload_n hX dL_areMen_262 rfl ?_
                refine ev_bipush hX dL_areMen_263 (v := 10) (by decide +kernel) ?_
                refine ev_idiv hX dL_areMen_265 (by decide) ?_
                refine ev_iconst hX dL_areMen_266 (v := 2) (by decide +kernel) ?_
                refine ev_icmp_ge (tgt := 274) hX dL_areMen_267 (by decide) ?_ ?_
                · refine ev_iconst hX dL_areMen_274 (v := 0) (by decide +kernel) ?_
                  refine ev_mask [true, false, false, false, false, true, false] (L' := [some (.inr (.inl 0)), none, none, none, none, some (.inl z5.1), none]) rfl rfl ?_
                  exact e_L_areMen_0_275 hX hr z5.1 0 z9.2
                · refine ev_iconst hX dL_areMen_270 (v := 1) (by decide +kernel) ?_
                  refine ev_goto (tgt := 275) hX dL_areMen_271 (by decide) ?_
                  refine ev_mask [true, false, false, false, false, true, false] (L' := [some (.inr (.inl 0)), none, none, none, none, some (.inl z5.1), none]) rfl rfl ?_
                  exact e_L_areMen_0_275 hX hr z5.1 1 z9.2
    · refine ev_aload_n hX dL_areMen_134 rfl ?_
      refine ev_iload hX dL_areMen_135 rfl ?_
      refine ev_iconst hX dL_areMen_137 (v := 5) (by decide +kernel) ?_
      refine ev_idiv hX dL_areMen_138 (by decide) ?_
      refine ev_iconst hX dL_areMen_139 (v := 1) (by decide +kernel) ?_
      refine ev_iload hX dL_areMen_140 rfl ?_
      refine ev_iconst hX dL_areMen_142 (v := 5) (by decide +kernel) ?_
      refine ev_irem hX dL_areMen_143 (by decide) ?_
      refine ev_iadd hX dL_areMen_144 ?_
      refine ev_callVi hX (k0 := 0) (As := [.inl (x5 / 5), .inl (1 + (x5 - x5 / 5 * 5))]) (rm := rm_X4_hand) (c_X4_hand l D cI cC td (x5 / 5) (1 + (x5 - x5 / 5 * 5)) w) (cwV 2 hX.ts gL_areMen_X4_hand rfl rfl rfl (by decide +kernel) ⟨Nat.le_of_ble_eq_true rfl, Nat.le_of_ble_eq_true rfl⟩) rfl rfl rfl rfl rfl rfl ⟨Nat.le_of_ble_eq_true rfl, Nat.le_of_ble_eq_true rfl⟩ dL_areMen_145 rfl (fun z10 hz10 => ?_)
      refine ev_istore hX dL_areMen_148 rfl (L' := [some (.inr (.inl 0)), some (.inl x1), some (.inl x2), some (.inl x3), some (.inl x4), some (.inl x5), some (.inl z10.1)]) rfl ?_
      refine ev_iload hX dL_areMen_150 rfl ?_
      refine ev_iload hX dL_areMen_152 rfl ?_
      refine ev_iconst hX dL_areMen_154 (v := 5) (by decide +kernel) ?_
      refine ev_icmp_ge (tgt := 163) hX dL_areMen_155 (by decide) ?_ ?_
      · refine ev_iconst hX dL_areMen_163 (v := 0) (by decide +kernel) ?_
        refine ev_mask [true, true, true, true, false, true, true] (L' := [some (.inr (.inl 0)), some (.inl x1), some (.inl x2), some (.inl x3), none, some (.inl x5), some (.inl z10.1)]) rfl rfl ?_
        exact e_L_areMen_0_164 hX hr (fun x1' x2' x3' x4' x5' w' => f_L_areMen_0_127 n x1' x2' x3' x4' x5' w') (fun x1' x2' x3' x4' x5' w' => ih x1' x2' x3' x4' x5' w') x1 x2 x3 x5 z10.1 0 x4 z10.2
      · refine ev_iload hX dL_areMen_158 rfl ?_
        refine ev_goto (tgt := 164) hX dL_areMen_160 (by decide) ?_
        refine ev_mask [true, true, true, true, false, true, true] (L' := [some (.inr (.inl 0)), some (.inl x1), some (.inl x2), some (.inl x3), none, some (.inl x5), some (.inl z10.1)]) rfl rfl ?_
        exact e_L_areMen_0_164 hX hr (fun x1' x2' x3' x4' x5' w' => f_L_areMen_0_127 n x1' x2' x3' x4' x5' w') (fun x1' x2' x3' x4' x5' w' => ih x1' x2' x3' x4' x5' w') x1 x2 x3 x5 z10.1 z10.1 x4 z10.2
set_option maxHeartbeats 4000000 in
set_option maxRecDepth 100000 in
theorem e_L_areMen_0_88 (hX : mv_X p s m args meth c D vwCl cI cC tbX td A cL_areMen 7 RL wsL_areMen) (hr : meth.sig.returnType = (some .boolean)) (k9 : Int32 → Int32 → Int32 → Int32 → mvW → Option (Int32 × mvW)) (hk9 : ∀ (x1 : Int32) (x2 : Int32) (x3 : Int32) (x4 : Int32) (w : mvW), EV p l e (headSpec wsL_areMen rm_L_areMen).room s m args below meth c D vwCl cI cC td A (fun a => a = ad0) (mv_Qi below args s D vwCl cI cC shX ad0 A) 0 0 shX [some (.inr (.inl 0)), some (.inl x1), some (.inl x2), some (.inl x3), some (.inl x4), none, none] [] 9 w (k9 x1 x2 x3 x4 w)) (x1 : Int32) (x3 : Int32) (x4 : Int32) (x5 : Int32) (s0 : Int32) (s1 : Int32) (w : mvW) : EV p l e (headSpec wsL_areMen rm_L_areMen).room s m args below meth c D vwCl cI cC td A (fun a => a = ad0) (mv_Qi below args s D vwCl cI cC shX ad0 A) 0 0 shX [some (.inr (.inl 0)), some (.inl x1), none, some (.inl x3), some (.inl x4), some (.inl x5), none] [.inl s0, .inl s1] 88 w (f_L_areMen_0_88 k9 x1 x3 x4 x5 s0 s1 w) := by
  rw [f_L_areMen_0_88]
  refine ev_iadd hX dL_areMen_88 ?_
  refine ev_istore_n hX dL_areMen_89 rfl (L' := [some (.inr (.inl 0)), some (.inl x1), some (.inl (s1 + s0)), some (.inl x3), some (.inl x4), some (.inl x5), none]) rfl ?_
  refine ev_iload_n hX dL_areMen_90 rfl ?_
  refine ev_iload hX dL_areMen_91 rfl ?_
  refine ev_bipush hX dL_areMen_93 (v := 10) (by decide +kernel) ?_
  refine ev_irem hX dL_areMen_95 (by decide) ?_
  refine ev_if_ne (tgt := 112) hX dL_areMen_96 (by decide) ?_ ?_
  · refine ev_iconst hX dL_areMen_112 (v := 0) (by decide +kernel) ?_
    refine ev_iadd hX dL_areMen_113 ?_
    refine ev_istore_n hX dL_areMen_114 rfl (L' := [some (.inr (.inl 0)), some (.inl x1), some (.inl (s1 + s0)), some (.inl (x3 + 0)), some (.inl x4), some (.inl x5), none]) rfl ?_
    refine ev_iinc hX dL_areMen_115 rfl (v := 1) (by decide +kernel) (L' := [some (.inr (.inl 0)), some (.inl x1), some (.inl (s1 + s0)), some (.inl (x3 + 0)), some (.inl (x4 + 1)), some (.inl x5), none]) rfl ?_
    refine ev_goto (tgt := 9) hX dL_areMen_118 (by decide) ?_
    refine ev_mask [true, true, true, true, true, false, false] (L' := [some (.inr (.inl 0)), some (.inl x1), some (.inl (s1 + s0)), some (.inl (x3 + 0)), some (.inl (x4 + 1)), none, none]) rfl rfl ?_
    exact hk9 x1 (s1 + s0) (x3 + 0) (x4 + 1) w
  · refine ev_iconst hX dL_areMen_99 (v := 1) (by decide +kernel) ?_
    refine ev_bipush hX dL_areMen_100 (v := 9) (by decide +kernel) ?_
    refine ev_iload hX dL_areMen_102 rfl ?_
    refine ev_bipush hX dL_areMen_104 (v := 10) (by decide +kernel) ?_
    refine ev_idiv hX dL_areMen_106 (by decide) ?_
    refine ev_imul hX dL_areMen_107 ?_
    refine ev_iadd hX dL_areMen_108 ?_
    refine ev_goto (tgt := 113) hX dL_areMen_109 (by decide) ?_
    refine ev_iadd hX dL_areMen_113 ?_
    refine ev_istore_n hX dL_areMen_114 rfl (L' := [some (.inr (.inl 0)), some (.inl x1), some (.inl (s1 + s0)), some (.inl (x3 + (1 + (9 * (x5 / 10))))), some (.inl x4), some (.inl x5), none]) rfl ?_
    refine ev_iinc hX dL_areMen_115 rfl (v := 1) (by decide +kernel) (L' := [some (.inr (.inl 0)), some (.inl x1), some (.inl (s1 + s0)), some (.inl (x3 + (1 + (9 * (x5 / 10))))), some (.inl (x4 + 1)), some (.inl x5), none]) rfl ?_
    refine ev_goto (tgt := 9) hX dL_areMen_118 (by decide) ?_
    refine ev_mask [true, true, true, true, true, false, false] (L' := [some (.inr (.inl 0)), some (.inl x1), some (.inl (s1 + s0)), some (.inl (x3 + (1 + (9 * (x5 / 10))))), some (.inl (x4 + 1)), none, none]) rfl rfl ?_
    exact hk9 x1 (s1 + s0) (x3 + (1 + (9 * (x5 / 10)))) (x4 + 1) w
set_option maxHeartbeats 4000000 in
set_option maxRecDepth 100000 in
theorem e_L_areMen_0_9 (hX : mv_X p s m args meth c D vwCl cI cC tbX td A cL_areMen 7 RL wsL_areMen) (hr : meth.sig.returnType = (some .boolean)) : ∀ (n : Nat) (x1 : Int32) (x2 : Int32) (x3 : Int32) (x4 : Int32) (w : mvW), EV p l e (headSpec wsL_areMen rm_L_areMen).room s m args below meth c D vwCl cI cC td A (fun a => a = ad0) (mv_Qi below args s D vwCl cI cC shX ad0 A) 0 0 shX [some (.inr (.inl 0)), some (.inl x1), some (.inl x2), some (.inl x3), some (.inl x4), none, none] [] 9 w (f_L_areMen_0_9 n x1 x2 x3 x4 w) := by
  intro n
  induction n with
  | zero => intro x1 x2 x3 x4 w; exact ev_none
  | succ n ih =>
    intro x1 x2 x3 x4 w
    rw [f_L_areMen_0_9]
    refine ev_iload hX dL_areMen_9 rfl ?_
    refine ev_bipush hX dL_areMen_11 (v := 25) (by decide +kernel) ?_
    refine ev_icmp_ge (tgt := 121) hX dL_areMen_13 (by decide) ?_ ?_
    · refine ev_iconst hX dL_areMen_121 (v := 0) (by decide +kernel) ?_
      refine ev_istore hX dL_areMen_122 rfl (L' := [some (.inr (.inl 0)), some (.inl x1), some (.inl x2), some (.inl x3), some (.inl 0), none, none]) rfl ?_
      refine ev_iconst hX dL_areMen_124 (v := 0) (by decide +kernel) ?_
      refine ev_istore hX dL_areMen_125 rfl (L' := [some (.inr (.inl 0)), some (.inl x1), some (.inl x2), some (.inl x3), some (.inl 0), some (.inl 0), none]) rfl ?_
      refine ev_mask [true, true, true, true, true, true, false] (L' := [some (.inr (.inl 0)), some (.inl x1), some (.inl x2), some (.inl x3), some (.inl 0), some (.inl 0), none]) rfl rfl ?_
      exact e_L_areMen_0_127 hX hr 4096 x1 x2 x3 0 0 w
    · refine ev_aload_n hX dL_areMen_16 rfl ?_
      refine ev_iload hX dL_areMen_17 rfl ?_
      refine ev_callVi hX (k0 := 0) (As := [.inl x4]) (rm := rm_X4_man) (c_X4_man l D cI cC td x4 w) (cwV 1 hX.ts gL_areMen_X4_man rfl rfl rfl (by decide +kernel) ⟨Nat.le_of_ble_eq_true rfl, Nat.le_of_ble_eq_true rfl⟩) rfl rfl rfl rfl rfl rfl ⟨Nat.le_of_ble_eq_true rfl, Nat.le_of_ble_eq_true rfl⟩ dL_areMen_19 rfl (fun z1 hz1 => ?_)
      refine ev_istore hX dL_areMen_22 rfl (L' := [some (.inr (.inl 0)), some (.inl x1), some (.inl x2), some (.inl x3), some (.inl x4), some (.inl z1.1), none]) rfl ?_
      refine ev_iload hX dL_areMen_24 rfl ?_
      refine ev_sipush hX dL_areMen_26 (v := (-1005)) (by decide +kernel) ?_
      refine ev_icmp_ne (tgt := 46) hX dL_areMen_29 (by decide) ?_ ?_
      · refine ev_iload hX dL_areMen_46 rfl ?_
        refine ev_if_lt (tgt := 58) hX dL_areMen_48 (by decide) ?_ ?_
        · refine ev_iconst hX dL_areMen_58 (v := 0) (by decide +kernel) ?_
          exact ev_iretz0 hX hr dL_areMen_59
        · refine ev_iload hX dL_areMen_51 rfl ?_
          refine ev_bipush hX dL_areMen_53 (v := 19) (by decide +kernel) ?_
          refine ev_icmp_le (tgt := 60) hX dL_areMen_55 (by decide) ?_ ?_
          · refine ev_iinc hX dL_areMen_60 rfl (v := 1) (by decide +kernel) (L' := [some (.inr (.inl 0)), some (.inl (x1 + 1)), some (.inl x2), some (.inl x3), some (.inl x4), some (.inl z1.1), none]) rfl ?_
            refine ev_iload_n hX dL_areMen_63 rfl ?_
            refine ev_iload hX dL_areMen_64 rfl ?_
            refine ev_bipush hX dL_areMen_66 (v := 10) (by decide +kernel) ?_
            refine ev_icmp_ge (tgt := 79) hX dL_areMen_68 (by decide) ?_ ?_
            · refine ev_iload hX dL_areMen_79 rfl ?_
              refine ev_bipush hX dL_areMen_81 (v := 10) (by decide +kernel) ?_
              refine ev_isub hX dL_areMen_83 ?_
              refine ev_callSi hX (As := [.inl (z1.1 - 10)]) (rm := rm_L_worth) (c_L_worth l D cI cC td (z1.1 - 10) z1.2) (cwS 1 hX.ts gL_areMen_L_worth rfl rfl rfl (by decide +kernel) ⟨Nat.le_of_ble_eq_true rfl, Nat.le_of_ble_eq_true rfl⟩) rfl rfl rfl ⟨Nat.le_of_ble_eq_true rfl, Nat.le_of_ble_eq_true rfl⟩ dL_areMen_84 rfl (fun z2 hz2 => ?_)
              refine ev_ineg hX dL_areMen_87 ?_
              refine ev_mask [true, true, false, true, true, true, false] (L' := [some (.inr (.inl 0)), some (.inl (x1 + 1)), none, some (.inl x3), some (.inl x4), some (.inl z1.1), none]) rfl rfl ?_
              exact e_L_areMen_0_88 hX hr (fun x1' x2' x3' x4' w' => f_L_areMen_0_9 n x1' x2' x3' x4' w') (fun x1' x2' x3' x4' w' => ih x1' x2' x3' x4' w') (x1 + 1) x3 x4 z1.1 (-z2.1) x2 z2.2
            · refine ev_iload hX dL_areMen_71 rfl ?_
              refine ev_callSi hX (As := [.inl z1.1]) (rm := rm_L_worth) (c_L_worth l D cI cC td z1.1 z1.2) (cwS 1 hX.ts gL_areMen_L_worth rfl rfl rfl (by decide +kernel) ⟨Nat.le_of_ble_eq_true rfl, Nat.le_of_ble_eq_true rfl⟩) rfl rfl rfl ⟨Nat.le_of_ble_eq_true rfl, Nat.le_of_ble_eq_true rfl⟩ dL_areMen_73 rfl (fun z3 hz3 => ?_)
              refine ev_goto (tgt := 88) hX dL_areMen_76 (by decide) ?_
              refine ev_mask [true, true, false, true, true, true, false] (L' := [some (.inr (.inl 0)), some (.inl (x1 + 1)), none, some (.inl x3), some (.inl x4), some (.inl z1.1), none]) rfl rfl ?_
              exact e_L_areMen_0_88 hX hr (fun x1' x2' x3' x4' w' => f_L_areMen_0_9 n x1' x2' x3' x4' w') (fun x1' x2' x3' x4' w' => ih x1' x2' x3' x4' w') (x1 + 1) x3 x4 z1.1 z3.1 x2 z3.2
          · refine ev_iconst hX dL_areMen_58 (v := 0) (by decide +kernel) ?_
            exact ev_iretz0 hX hr dL_areMen_59
      · refine ev_aload_n hX dL_areMen_32 rfl ?_
        refine ev_iload hX dL_areMen_33 rfl ?_
        refine ev_callVi hX (k0 := 0) (As := [.inl x4]) (rm := rm_X4_attacked) (c_X4_attacked l D cI cC td x4 z1.2) (cwV 1 hX.ts gL_areMen_X4_attacked rfl rfl rfl (by decide +kernel) ⟨Nat.le_of_ble_eq_true rfl, Nat.le_of_ble_eq_true rfl⟩) rfl rfl rfl rfl rfl rfl ⟨Nat.le_of_ble_eq_true rfl, Nat.le_of_ble_eq_true rfl⟩ dL_areMen_35 rfl (fun z4 hz4 => ?_)
        refine ev_sipush hX dL_areMen_38 (v := (-1005)) (by decide +kernel) ?_
        refine ev_icmp_eq (tgt := 115) hX dL_areMen_41 (by decide) ?_ ?_
        · refine ev_iinc hX dL_areMen_115 rfl (v := 1) (by decide +kernel) (L' := [some (.inr (.inl 0)), some (.inl x1), some (.inl x2), some (.inl x3), some (.inl (x4 + 1)), some (.inl z1.1), none]) rfl ?_
          refine ev_goto (tgt := 9) hX dL_areMen_118 (by decide) ?_
          refine ev_mask [true, true, true, true, true, false, false] (L' := [some (.inr (.inl 0)), some (.inl x1), some (.inl x2), some (.inl x3), some (.inl (x4 + 1)), none, none]) rfl rfl ?_
          exact ih x1 x2 x3 (x4 + 1) z4.2
        · refine ev_iconst hX dL_areMen_44 (v := 0) (by decide +kernel) ?_
          exact ev_iretz0 hX hr dL_areMen_45
set_option maxHeartbeats 4000000 in
set_option maxRecDepth 100000 in
theorem c_L_areMen_0 (l : Launch) (D : va_G) (cI cC : ClassId) (td : Nat → Option Nat) (w : mvW) : ∀ z, f_L_areMen_0 w = some z → mv_Ci l D vwCl cI cC tbX td yL_areMen wsL_areMen rm_L_areMen shX w [.inr (.inl 0)] z := by
  refine mv_starti (own := RL) rfl (by decide) rfl rfl (L0 := [some (.inr (.inl 0)), none, none, none, none, none, none]) rfl (fun p e s m args below meth c A ad0 hX hr => ?_)
  rw [f_L_areMen_0]
  refine ev_iconst hX dL_areMen_0 (v := 0) (by decide +kernel) ?_
  refine ev_istore_n hX dL_areMen_1 rfl (L' := [some (.inr (.inl 0)), some (.inl 0), none, none, none, none, none]) rfl ?_
  refine ev_iconst hX dL_areMen_2 (v := 0) (by decide +kernel) ?_
  refine ev_istore_n hX dL_areMen_3 rfl (L' := [some (.inr (.inl 0)), some (.inl 0), some (.inl 0), none, none, none, none]) rfl ?_
  refine ev_iconst hX dL_areMen_4 (v := 0) (by decide +kernel) ?_
  refine ev_istore_n hX dL_areMen_5 rfl (L' := [some (.inr (.inl 0)), some (.inl 0), some (.inl 0), some (.inl 0), none, none, none]) rfl ?_
  refine ev_iconst hX dL_areMen_6 (v := 0) (by decide +kernel) ?_
  refine ev_istore hX dL_areMen_7 rfl (L' := [some (.inr (.inl 0)), some (.inl 0), some (.inl 0), some (.inl 0), some (.inl 0), none, none]) rfl ?_
  refine ev_mask [true, true, true, true, true, false, false] (L' := [some (.inr (.inl 0)), some (.inl 0), some (.inl 0), some (.inl 0), some (.inl 0), none, none]) rfl rfl ?_
  exact e_L_areMen_0_9 hX hr 4096 0 0 0 0 w
def rm_L_areDrops : Room := { frames := 8, cells := 0, slots := 0, locals := 190 }
set_option maxHeartbeats 4000000 in
set_option maxRecDepth 100000 in
theorem e_L_areDrops_0_95 (hX : mv_X p s m args meth c D vwCl cI cC tbX td A cL_areDrops 6 RL wsL_areDrops) (hr : meth.sig.returnType = (some .boolean)) (k23 : Int32 → Int32 → Int32 → Int32 → mvW → Option (Int32 × mvW)) (hk23 : ∀ (x1 : Int32) (x2 : Int32) (x3 : Int32) (x4 : Int32) (w : mvW), EV p l e (headSpec wsL_areDrops rm_L_areDrops).room s m args below meth c D vwCl cI cC td A (fun a => a = ad0) (mv_Qi below args s D vwCl cI cC shX ad0 A) 0 0 shX [some (.inr (.inl 0)), some (.inl x1), some (.inl x2), some (.inl x3), some (.inl x4), none] [] 23 w (k23 x1 x2 x3 x4 w)) (x1 : Int32) (x2 : Int32) (x3 : Int32) (x4 : Int32) (x5 : Int32) (s0 : Int32) (s1 : Int32) (w : mvW) : EV p l e (headSpec wsL_areDrops rm_L_areDrops).room s m args below meth c D vwCl cI cC td A (fun a => a = ad0) (mv_Qi below args s D vwCl cI cC shX ad0 A) 0 0 shX [some (.inr (.inl 0)), some (.inl x1), some (.inl x2), some (.inl x3), some (.inl x4), some (.inl x5)] [.inl s0, .inl s1] 95 w (f_L_areDrops_0_95 k23 x1 x2 x3 x4 x5 s0 s1 w) := by
  rw [f_L_areDrops_0_95]
  refine ev_icmp_ne (tgt := 115) hX dL_areDrops_95 (by decide) ?_ ?_
  · refine ev_iconst hX dL_areDrops_115 (v := 0) (by decide +kernel) ?_
    exact ev_iretz0 hX hr dL_areDrops_116
  · refine ev_iload hX dL_areDrops_98 rfl ?_
    refine ev_if_ne (tgt := 117) hX dL_areDrops_100 (by decide) ?_ ?_
    · refine ev_iinc hX dL_areDrops_117 rfl (v := 1) (by decide +kernel) (L' := [some (.inr (.inl 0)), some (.inl x1), some (.inl x2), some (.inl x3), some (.inl (x4 + 1)), some (.inl x5)]) rfl ?_
      refine ev_goto (tgt := 23) hX dL_areDrops_120 (by decide) ?_
      refine ev_mask [true, true, true, true, true, false] (L' := [some (.inr (.inl 0)), some (.inl x1), some (.inl x2), some (.inl x3), some (.inl (x4 + 1)), none]) rfl rfl ?_
      exact hk23 x1 x2 x3 (x4 + 1) w
    · refine ev_aload_n hX dL_areDrops_103 rfl ?_
      refine ev_iload hX dL_areDrops_104 rfl ?_
      refine ev_callVi hX (k0 := 0) (As := [.inl x4]) (rm := rm_X4_man) (c_X4_man l D cI cC td x4 w) (cwV 1 hX.ts gL_areDrops_X4_man rfl rfl rfl (by decide +kernel) ⟨Nat.le_of_ble_eq_true rfl, Nat.le_of_ble_eq_true rfl⟩) rfl rfl rfl rfl rfl rfl ⟨Nat.le_of_ble_eq_true rfl, Nat.le_of_ble_eq_true rfl⟩ dL_areDrops_106 rfl (fun z7 hz7 => ?_)
      refine ev_sipush hX dL_areDrops_109 (v := (-1005)) (by decide +kernel) ?_
      refine ev_icmp_eq (tgt := 117) hX dL_areDrops_112 (by decide) ?_ ?_
      · refine ev_iinc hX dL_areDrops_117 rfl (v := 1) (by decide +kernel) (L' := [some (.inr (.inl 0)), some (.inl x1), some (.inl x2), some (.inl x3), some (.inl (x4 + 1)), some (.inl x5)]) rfl ?_
        refine ev_goto (tgt := 23) hX dL_areDrops_120 (by decide) ?_
        refine ev_mask [true, true, true, true, true, false] (L' := [some (.inr (.inl 0)), some (.inl x1), some (.inl x2), some (.inl x3), some (.inl (x4 + 1)), none]) rfl rfl ?_
        exact hk23 x1 x2 x3 (x4 + 1) z7.2
      · refine ev_iconst hX dL_areDrops_115 (v := 0) (by decide +kernel) ?_
        exact ev_iretz0 hX hr dL_areDrops_116
set_option maxHeartbeats 4000000 in
set_option maxRecDepth 100000 in
theorem e_L_areDrops_0_81 (hX : mv_X p s m args meth c D vwCl cI cC tbX td A cL_areDrops 6 RL wsL_areDrops) (hr : meth.sig.returnType = (some .boolean)) (k23 : Int32 → Int32 → Int32 → Int32 → mvW → Option (Int32 × mvW)) (hk23 : ∀ (x1 : Int32) (x2 : Int32) (x3 : Int32) (x4 : Int32) (w : mvW), EV p l e (headSpec wsL_areDrops rm_L_areDrops).room s m args below meth c D vwCl cI cC td A (fun a => a = ad0) (mv_Qi below args s D vwCl cI cC shX ad0 A) 0 0 shX [some (.inr (.inl 0)), some (.inl x1), some (.inl x2), some (.inl x3), some (.inl x4), none] [] 23 w (k23 x1 x2 x3 x4 w)) (x1 : Int32) (x2 : Int32) (x3 : Int32) (x4 : Int32) (x5 : Int32) (s0 : Int32) (w : mvW) : EV p l e (headSpec wsL_areDrops rm_L_areDrops).room s m args below meth c D vwCl cI cC td A (fun a => a = ad0) (mv_Qi below args s D vwCl cI cC shX ad0 A) 0 0 shX [some (.inr (.inl 0)), some (.inl x1), some (.inl x2), some (.inl x3), some (.inl x4), some (.inl x5)] [.inl s0] 81 w (f_L_areDrops_0_81 k23 x1 x2 x3 x4 x5 s0 w) := by
  rw [f_L_areDrops_0_81]
  refine ev_aload_n hX dL_areDrops_81 rfl ?_
  refine ev_iload_n hX dL_areDrops_82 rfl ?_
  refine ev_iload_n hX dL_areDrops_83 rfl ?_
  refine ev_callVi hX (k0 := 0) (As := [.inl x1, .inl x2]) (rm := rm_X4_hand) (c_X4_hand l D cI cC td x1 x2 w) (cwV 2 hX.ts gL_areDrops_X4_hand rfl rfl rfl (by decide +kernel) ⟨Nat.le_of_ble_eq_true rfl, Nat.le_of_ble_eq_true rfl⟩) rfl rfl rfl rfl rfl rfl ⟨Nat.le_of_ble_eq_true rfl, Nat.le_of_ble_eq_true rfl⟩ dL_areDrops_84 rfl (fun z6 hz6 => ?_)
  refine ev_if_ne (tgt := 94) hX dL_areDrops_87 (by decide) ?_ ?_
  · refine ev_iconst hX dL_areDrops_94 (v := 0) (by decide +kernel) ?_
    refine ev_mask [true, true, true, true, true, true] (L' := [some (.inr (.inl 0)), some (.inl x1), some (.inl x2), some (.inl x3), some (.inl x4), some (.inl x5)]) rfl rfl ?_
    exact e_L_areDrops_0_95 hX hr k23 hk23 x1 x2 x3 x4 x5 0 s0 z6.2
  · refine ev_iconst hX dL_areDrops_90 (v := 1) (by decide +kernel) ?_
    refine ev_goto (tgt := 95) hX dL_areDrops_91 (by decide) ?_
    refine ev_mask [true, true, true, true, true, true] (L' := [some (.inr (.inl 0)), some (.inl x1), some (.inl x2), some (.inl x3), some (.inl x4), some (.inl x5)]) rfl rfl ?_
    exact e_L_areDrops_0_95 hX hr k23 hk23 x1 x2 x3 x4 x5 1 s0 z6.2
set_option maxHeartbeats 4000000 in
set_option maxRecDepth 100000 in
theorem e_L_areDrops_0_55 (hX : mv_X p s m args meth c D vwCl cI cC tbX td A cL_areDrops 6 RL wsL_areDrops) (hr : meth.sig.returnType = (some .boolean)) (k23 : Int32 → Int32 → Int32 → Int32 → mvW → Option (Int32 × mvW)) (hk23 : ∀ (x1 : Int32) (x2 : Int32) (x3 : Int32) (x4 : Int32) (w : mvW), EV p l e (headSpec wsL_areDrops rm_L_areDrops).room s m args below meth c D vwCl cI cC td A (fun a => a = ad0) (mv_Qi below args s D vwCl cI cC shX ad0 A) 0 0 shX [some (.inr (.inl 0)), some (.inl x1), some (.inl x2), some (.inl x3), some (.inl x4), none] [] 23 w (k23 x1 x2 x3 x4 w)) (x1 : Int32) (x2 : Int32) (x3 : Int32) (x4 : Int32) (x5 : Int32) (s0 : Int32) (s1 : Int32) (w : mvW) : EV p l e (headSpec wsL_areDrops rm_L_areDrops).room s m args below meth c D vwCl cI cC td A (fun a => a = ad0) (mv_Qi below args s D vwCl cI cC shX ad0 A) 0 0 shX [some (.inr (.inl 0)), some (.inl x1), some (.inl x2), some (.inl x3), some (.inl x4), some (.inl x5)] [.inl s0, .inl s1] 55 w (f_L_areDrops_0_55 k23 x1 x2 x3 x4 x5 s0 s1 w) := by
  rw [f_L_areDrops_0_55]
  refine ev_icmp_ne (tgt := 115) hX dL_areDrops_55 (by decide) ?_ ?_
  · refine ev_iconst hX dL_areDrops_115 (v := 0) (by decide +kernel) ?_
    exact ev_iretz0 hX hr dL_areDrops_116
  · refine ev_iload hX dL_areDrops_58 rfl ?_
    refine ev_if_lt (tgt := 115) hX dL_areDrops_60 (by decide) ?_ ?_
    · refine ev_iconst hX dL_areDrops_115 (v := 0) (by decide +kernel) ?_
      exact ev_iretz0 hX hr dL_areDrops_116
    · refine ev_iload hX dL_areDrops_63 rfl ?_
      refine ev_bipush hX dL_areDrops_65 (v := 6) (by decide +kernel) ?_
      refine ev_icmp_gt (tgt := 115) hX dL_areDrops_67 (by decide) ?_ ?_
      · refine ev_iconst hX dL_areDrops_115 (v := 0) (by decide +kernel) ?_
        exact ev_iretz0 hX hr dL_areDrops_116
      · refine ev_iload hX dL_areDrops_70 rfl ?_
        refine ev_iconst hX dL_areDrops_72 (v := 1) (by decide +kernel) ?_
        refine ev_icmp_ne (tgt := 80) hX dL_areDrops_73 (by decide) ?_ ?_
        · refine ev_iconst hX dL_areDrops_80 (v := 0) (by decide +kernel) ?_
          refine ev_mask [true, true, true, true, true, true] (L' := [some (.inr (.inl 0)), some (.inl x1), some (.inl x2), some (.inl x3), some (.inl x4), some (.inl x5)]) rfl rfl ?_
          exact e_L_areDrops_0_81 hX hr k23 hk23 x1 x2 x3 x4 x5 0 w
        · refine ev_iconst hX dL_areDrops_76 (v := 1) (by decide +kernel) ?_
          refine ev_goto (tgt := 81) hX dL_areDrops_77 (by decide) ?_
          refine ev_mask [true, true, true, true, true, true] (L' := [some (.inr (.inl 0)), some (.inl x1), some (.inl x2), some (.inl x3), some (.inl x4), some (.inl x5)]) rfl rfl ?_
          exact e_L_areDrops_0_81 hX hr k23 hk23 x1 x2 x3 x4 x5 1 w
set_option maxHeartbeats 4000000 in
set_option maxRecDepth 100000 in
theorem e_L_areDrops_0_23 (hX : mv_X p s m args meth c D vwCl cI cC tbX td A cL_areDrops 6 RL wsL_areDrops) (hr : meth.sig.returnType = (some .boolean)) (k8 : Int32 → Int32 → mvW → Option (Int32 × mvW)) (hk8 : ∀ (x1 : Int32) (x2 : Int32) (w : mvW), EV p l e (headSpec wsL_areDrops rm_L_areDrops).room s m args below meth c D vwCl cI cC td A (fun a => a = ad0) (mv_Qi below args s D vwCl cI cC shX ad0 A) 0 0 shX [some (.inr (.inl 0)), some (.inl x1), some (.inl x2), none, none, none] [] 8 w (k8 x1 x2 w)) : ∀ (n : Nat) (x1 : Int32) (x2 : Int32) (x3 : Int32) (x4 : Int32) (w : mvW), EV p l e (headSpec wsL_areDrops rm_L_areDrops).room s m args below meth c D vwCl cI cC td A (fun a => a = ad0) (mv_Qi below args s D vwCl cI cC shX ad0 A) 0 0 shX [some (.inr (.inl 0)), some (.inl x1), some (.inl x2), some (.inl x3), some (.inl x4), none] [] 23 w (f_L_areDrops_0_23 k8 n x1 x2 x3 x4 w) := by
  intro n
  induction n with
  | zero => intro x1 x2 x3 x4 w; exact ev_none
  | succ n ih =>
    intro x1 x2 x3 x4 w
    rw [f_L_areDrops_0_23]
    refine ev_iload hX dL_areDrops_23 rfl ?_
    refine ev_bipush hX dL_areDrops_25 (v := 25) (by decide +kernel) ?_
    refine ev_icmp_ge (tgt := 123) hX dL_areDrops_27 (by decide) ?_ ?_
    · refine ev_iinc hX dL_areDrops_123 rfl (v := 1) (by decide +kernel) (L' := [some (.inr (.inl 0)), some (.inl x1), some (.inl (x2 + 1)), some (.inl x3), some (.inl x4), none]) rfl ?_
      refine ev_goto (tgt := 8) hX dL_areDrops_126 (by decide) ?_
      refine ev_mask [true, true, true, false, false, false] (L' := [some (.inr (.inl 0)), some (.inl x1), some (.inl (x2 + 1)), none, none, none]) rfl rfl ?_
      exact hk8 x1 (x2 + 1) w
    · refine ev_aload_n hX dL_areDrops_30 rfl ?_
      refine ev_iload_n hX dL_areDrops_31 rfl ?_
      refine ev_iload hX dL_areDrops_32 rfl ?_
      refine ev_callVi hX (k0 := 0) (As := [.inl x2, .inl x4]) (rm := rm_X4_dropReason) (c_X4_dropReason l D cI cC td x2 x4 w) (cwV 2 hX.ts gL_areDrops_X4_dropReason rfl rfl rfl (by decide +kernel) ⟨Nat.le_of_ble_eq_true rfl, Nat.le_of_ble_eq_true rfl⟩) rfl rfl rfl rfl rfl rfl ⟨Nat.le_of_ble_eq_true rfl, Nat.le_of_ble_eq_true rfl⟩ dL_areDrops_34 rfl (fun z5 hz5 => ?_)
      refine ev_istore hX dL_areDrops_37 rfl (L' := [some (.inr (.inl 0)), some (.inl x1), some (.inl x2), some (.inl x3), some (.inl x4), some (.inl z5.1)]) rfl ?_
      refine ev_iload_n hX dL_areDrops_39 rfl ?_
      refine ev_iload hX dL_areDrops_40 rfl ?_
      refine ev_ishr hX dL_areDrops_42 ?_
      refine ev_iconst hX dL_areDrops_43 (v := 1) (by decide +kernel) ?_
      refine ev_iand hX dL_areDrops_44 ?_
      refine ev_iload hX dL_areDrops_45 rfl ?_
      refine ev_if_ne (tgt := 54) hX dL_areDrops_47 (by decide) ?_ ?_
      · refine ev_iconst hX dL_areDrops_54 (v := 0) (by decide +kernel) ?_
        refine ev_mask [true, true, true, true, true, true] (L' := [some (.inr (.inl 0)), some (.inl x1), some (.inl x2), some (.inl x3), some (.inl x4), some (.inl z5.1)]) rfl rfl ?_
        exact e_L_areDrops_0_55 hX hr (fun x1' x2' x3' x4' w' => f_L_areDrops_0_23 k8 n x1' x2' x3' x4' w') (fun x1' x2' x3' x4' w' => ih x1' x2' x3' x4' w') x1 x2 x3 x4 z5.1 0 ((x3 >>> (x4 &&& 31)) &&& 1) z5.2
      · refine ev_iconst hX dL_areDrops_50 (v := 1) (by decide +kernel) ?_
        refine ev_goto (tgt := 55) hX dL_areDrops_51 (by decide) ?_
        refine ev_mask [true, true, true, true, true, true] (L' := [some (.inr (.inl 0)), some (.inl x1), some (.inl x2), some (.inl x3), some (.inl x4), some (.inl z5.1)]) rfl rfl ?_
        exact e_L_areDrops_0_55 hX hr (fun x1' x2' x3' x4' w' => f_L_areDrops_0_23 k8 n x1' x2' x3' x4' w') (fun x1' x2' x3' x4' w' => ih x1' x2' x3' x4' w') x1 x2 x3 x4 z5.1 1 ((x3 >>> (x4 &&& 31)) &&& 1) z5.2
set_option maxHeartbeats 4000000 in
set_option maxRecDepth 100000 in
theorem e_L_areDrops_0_8 (hX : mv_X p s m args meth c D vwCl cI cC tbX td A cL_areDrops 6 RL wsL_areDrops) (hr : meth.sig.returnType = (some .boolean)) : ∀ (n : Nat) (x1 : Int32) (x2 : Int32) (w : mvW), EV p l e (headSpec wsL_areDrops rm_L_areDrops).room s m args below meth c D vwCl cI cC td A (fun a => a = ad0) (mv_Qi below args s D vwCl cI cC shX ad0 A) 0 0 shX [some (.inr (.inl 0)), some (.inl x1), some (.inl x2), none, none, none] [] 8 w (f_L_areDrops_0_8 n x1 x2 w) := by
  intro n
  induction n with
  | zero => intro x1 x2 w; exact ev_none
  | succ n ih =>
    intro x1 x2 w
    rw [f_L_areDrops_0_8]
    refine ev_iload_n hX dL_areDrops_8 rfl ?_
    refine ev_bipush hX dL_areDrops_9 (v := 6) (by decide +kernel) ?_
    refine ev_icmp_ge (tgt := 129) hX dL_areDrops_11 (by decide) ?_ ?_
    · refine ev_aload_n hX dL_areDrops_129 rfl ?_
      refine ev_iconst hX dL_areDrops_130 (v := 0) (by decide +kernel) ?_
      refine ev_callVi hX (k0 := 0) (As := [.inl 0]) (rm := rm_X4_drops) (c_X4_drops l D cI cC td 0 w) (cwV 1 hX.ts gL_areDrops_X4_drops rfl rfl rfl (by decide +kernel) ⟨Nat.le_of_ble_eq_true rfl, Nat.le_of_ble_eq_true rfl⟩) rfl rfl rfl rfl rfl rfl ⟨Nat.le_of_ble_eq_true rfl, Nat.le_of_ble_eq_true rfl⟩ dL_areDrops_131 rfl (fun z2 hz2 => ?_)
      refine ev_sipush hX dL_areDrops_134 (v := (-1001)) (by decide +kernel) ?_
      refine ev_icmp_ne (tgt := 156) hX dL_areDrops_137 (by decide) ?_ ?_
      · refine ev_iconst hX dL_areDrops_156 (v := 0) (by decide +kernel) ?_
        exact ev_iretz0 hX hr dL_areDrops_157
      · refine ev_aload_n hX dL_areDrops_140 rfl ?_
        refine ev_bipush hX dL_areDrops_141 (v := 6) (by decide +kernel) ?_
        refine ev_callVi hX (k0 := 0) (As := [.inl 6]) (rm := rm_X4_drops) (c_X4_drops l D cI cC td 6 z2.2) (cwV 1 hX.ts gL_areDrops_X4_drops rfl rfl rfl (by decide +kernel) ⟨Nat.le_of_ble_eq_true rfl, Nat.le_of_ble_eq_true rfl⟩) rfl rfl rfl rfl rfl rfl ⟨Nat.le_of_ble_eq_true rfl, Nat.le_of_ble_eq_true rfl⟩ dL_areDrops_143 rfl (fun z3 hz3 => ?_)
        refine ev_sipush hX dL_areDrops_146 (v := (-1001)) (by decide +kernel) ?_
        refine ev_icmp_ne (tgt := 156) hX dL_areDrops_149 (by decide) ?_ ?_
        · refine ev_iconst hX dL_areDrops_156 (v := 0) (by decide +kernel) ?_
          exact ev_iretz0 hX hr dL_areDrops_157
        · refine ev_iconst hX dL_areDrops_152 (v := 1) (by decide +kernel) ?_
          refine ev_goto (tgt := 157) hX dL_areDrops_153 (by decide) ?_
          exact ev_iretz1 hX hr dL_areDrops_157
    · refine ev_aload_n hX dL_areDrops_14 rfl ?_
      refine ev_iload_n hX dL_areDrops_15 rfl ?_
      refine ev_callVi hX (k0 := 0) (As := [.inl x2]) (rm := rm_X4_drops) (c_X4_drops l D cI cC td x2 w) (cwV 1 hX.ts gL_areDrops_X4_drops rfl rfl rfl (by decide +kernel) ⟨Nat.le_of_ble_eq_true rfl, Nat.le_of_ble_eq_true rfl⟩) rfl rfl rfl rfl rfl rfl ⟨Nat.le_of_ble_eq_true rfl, Nat.le_of_ble_eq_true rfl⟩ dL_areDrops_16 rfl (fun z4 hz4 => ?_)
      refine ev_istore_n hX dL_areDrops_19 rfl (L' := [some (.inr (.inl 0)), some (.inl x1), some (.inl x2), some (.inl z4.1), none, none]) rfl ?_
      refine ev_iconst hX dL_areDrops_20 (v := 0) (by decide +kernel) ?_
      refine ev_istore hX dL_areDrops_21 rfl (L' := [some (.inr (.inl 0)), some (.inl x1), some (.inl x2), some (.inl z4.1), some (.inl 0), none]) rfl ?_
      refine ev_mask [true, true, true, true, true, false] (L' := [some (.inr (.inl 0)), some (.inl x1), some (.inl x2), some (.inl z4.1), some (.inl 0), none]) rfl rfl ?_
      exact e_L_areDrops_0_23 hX hr (fun x1' x2' w' => f_L_areDrops_0_8 n x1' x2' w') (fun x1' x2' w' => ih x1' x2' w') 4096 x1 x2 z4.1 0 z4.2
set_option maxHeartbeats 4000000 in
set_option maxRecDepth 100000 in
theorem c_L_areDrops_0 (l : Launch) (D : va_G) (cI cC : ClassId) (td : Nat → Option Nat) (w : mvW) : ∀ z, f_L_areDrops_0 w = some z → mv_Ci l D vwCl cI cC tbX td yL_areDrops wsL_areDrops rm_L_areDrops shX w [.inr (.inl 0)] z := by
  refine mv_starti (own := RL) rfl (by decide) rfl rfl (L0 := [some (.inr (.inl 0)), none, none, none, none, none]) rfl (fun p e s m args below meth c A ad0 hX hr => ?_)
  rw [f_L_areDrops_0]
  refine ev_aload_n hX dL_areDrops_0 rfl ?_
  refine ev_iconst hX dL_areDrops_1 (v := 0) (by decide +kernel) ?_
  refine ev_callVi hX (k0 := 0) (As := [.inl 0]) (rm := rm_X4_total) (c_X4_total l D cI cC td 0 w) (cwV 1 hX.ts gL_areDrops_X4_total rfl rfl rfl (by decide +kernel) ⟨Nat.le_of_ble_eq_true rfl, Nat.le_of_ble_eq_true rfl⟩) rfl rfl rfl rfl rfl rfl ⟨Nat.le_of_ble_eq_true rfl, Nat.le_of_ble_eq_true rfl⟩ dL_areDrops_2 rfl (fun z1 hz1 => ?_)
  refine ev_istore_n hX dL_areDrops_5 rfl (L' := [some (.inr (.inl 0)), some (.inl z1.1), none, none, none, none]) rfl ?_
  refine ev_iconst hX dL_areDrops_6 (v := 1) (by decide +kernel) ?_
  refine ev_istore_n hX dL_areDrops_7 rfl (L' := [some (.inr (.inl 0)), some (.inl z1.1), some (.inl 1), none, none, none]) rfl ?_
  refine ev_mask [true, true, true, false, false, false] (L' := [some (.inr (.inl 0)), some (.inl z1.1), some (.inl 1), none, none, none]) rfl rfl ?_
  exact e_L_areDrops_0_8 hX hr 4096 z1.1 1 z1.2
end
