section
variable {p : Program} {l : Launch} {e : Env} {s : State} {m : MethodId} {args : Array Value} {below : List Frame} {meth : Method} {c : Code} {D : va_G} {cI cC : ClassId} {td : Nat → Option Nat} {A : Nat → Prop} {ad0 : Nat → Nat}
def rm_L_arePlays : Room := { frames := 9, cells := 0, slots := 0, locals := 210 }
set_option maxHeartbeats 4000000 in
set_option maxRecDepth 100000 in
theorem e_L_arePlays_0_390 (hX : mv_X p s m args meth c D vwCl cI cC tbX td A cL_arePlays 17 RL wsL_arePlays) (hr : meth.sig.returnType = (some .boolean)) (x1 : Int32) (x3 : Int32) (x5 : Int32) (x6 : Int32) (x7 : Int32) (w : mvW) : EV p l e (headSpec wsL_arePlays rm_L_arePlays).room s m args below meth c D vwCl cI cC td A (fun a => a = ad0) (mv_Qi below args s D vwCl cI cC shX ad0 A) 0 0 shX [some (.inr (.inl 0)), some (.inl x1), none, some (.inl x3), none, some (.inl x5), some (.inl x6), some (.inl x7), none, none, none, none, none, none, none, none, none] [] 390 w (f_L_arePlays_0_390 x1 x3 x5 x6 x7 w) := by
  rw [f_L_arePlays_0_390]
  refine ev_aload_n hX dL_arePlays_390 rfl ?_
  refine ev_iload_n hX dL_arePlays_391 rfl ?_
  refine ev_callVi hX (k0 := 0) (As := [.inl x1]) (rm := rm_X4_playAt) (c_X4_playAt l D cI cC td x1 w) (cwV 1 hX.ts gL_arePlays_X4_playAt rfl rfl rfl (by decide +kernel) ⟨Nat.le_of_ble_eq_true rfl, Nat.le_of_ble_eq_true rfl⟩) rfl rfl rfl rfl rfl rfl ⟨Nat.le_of_ble_eq_true rfl, Nat.le_of_ble_eq_true rfl⟩ dL_arePlays_392 rfl (fun z8 hz8 => ?_)
  refine ev_sipush hX dL_arePlays_395 (v := (-1005)) (by decide +kernel) ?_
  refine ev_icmp_ne (tgt := 457) hX dL_arePlays_398 (by decide) ?_ ?_
  · refine ev_iconst hX dL_arePlays_457 (v := 0) (by decide +kernel) ?_
    exact ev_iretz0 hX hr dL_arePlays_458
  · refine ev_aload_n hX dL_arePlays_401 rfl ?_
    refine ev_iconst hX dL_arePlays_402 (v := (-1)) (by decide +kernel) ?_
    refine ev_callVi hX (k0 := 0) (As := [.inl (-1)]) (rm := rm_X4_playAt) (c_X4_playAt l D cI cC td (-1) z8.2) (cwV 1 hX.ts gL_arePlays_X4_playAt rfl rfl rfl (by decide +kernel) ⟨Nat.le_of_ble_eq_true rfl, Nat.le_of_ble_eq_true rfl⟩) rfl rfl rfl rfl rfl rfl ⟨Nat.le_of_ble_eq_true rfl, Nat.le_of_ble_eq_true rfl⟩ dL_arePlays_403 rfl (fun z9 hz9 => ?_)
    refine ev_sipush hX dL_arePlays_406 (v := (-1002)) (by decide +kernel) ?_
    refine ev_icmp_ne (tgt := 457) hX dL_arePlays_409 (by decide) ?_ ?_
    · refine ev_iconst hX dL_arePlays_457 (v := 0) (by decide +kernel) ?_
      exact ev_iretz0 hX hr dL_arePlays_458
    · refine ev_aload_n hX dL_arePlays_412 rfl ?_
      refine ev_callVi hX (k0 := 0) (As := []) (rm := rm_X4_mate) (c_X4_mate l D cI cC td z9.2) (cwV 0 hX.ts gL_arePlays_X4_mate rfl rfl rfl (by decide +kernel) ⟨Nat.le_of_ble_eq_true rfl, Nat.le_of_ble_eq_true rfl⟩) rfl rfl rfl rfl rfl rfl ⟨Nat.le_of_ble_eq_true rfl, Nat.le_of_ble_eq_true rfl⟩ dL_arePlays_413 rfl (fun z10 hz10 => ?_)
      refine ev_iload hX dL_arePlays_416 rfl ?_
      refine ev_icmp_ne (tgt := 457) hX dL_arePlays_418 (by decide) ?_ ?_
      · refine ev_iconst hX dL_arePlays_457 (v := 0) (by decide +kernel) ?_
        exact ev_iretz0 hX hr dL_arePlays_458
      · refine ev_aload_n hX dL_arePlays_421 rfl ?_
        refine ev_callVi hX (k0 := 0) (As := []) (rm := rm_X4_tightest) (c_X4_tightest l D cI cC td z10.2) (cwV 0 hX.ts gL_arePlays_X4_tightest rfl rfl rfl (by decide +kernel) ⟨Nat.le_of_ble_eq_true rfl, Nat.le_of_ble_eq_true rfl⟩) rfl rfl rfl rfl rfl rfl ⟨Nat.le_of_ble_eq_true rfl, Nat.le_of_ble_eq_true rfl⟩ dL_arePlays_422 rfl (fun z11 hz11 => ?_)
        refine ev_iload hX dL_arePlays_425 rfl ?_
        refine ev_icmp_ne (tgt := 457) hX dL_arePlays_427 (by decide) ?_ ?_
        · refine ev_iconst hX dL_arePlays_457 (v := 0) (by decide +kernel) ?_
          exact ev_iretz0 hX hr dL_arePlays_458
        · refine ev_aload_n hX dL_arePlays_430 rfl ?_
          refine ev_iconst hX dL_arePlays_431 (v := 4) (by decide +kernel) ?_
          refine ev_callVi hX (k0 := 0) (As := [.inl 4]) (rm := rm_X4_total) (c_X4_total l D cI cC td 4 z11.2) (cwV 1 hX.ts gL_arePlays_X4_total rfl rfl rfl (by decide +kernel) ⟨Nat.le_of_ble_eq_true rfl, Nat.le_of_ble_eq_true rfl⟩) rfl rfl rfl rfl rfl rfl ⟨Nat.le_of_ble_eq_true rfl, Nat.le_of_ble_eq_true rfl⟩ dL_arePlays_432 rfl (fun z12 hz12 => ?_)
          refine ev_iload_n hX dL_arePlays_435 rfl ?_
          refine ev_icmp_ne (tgt := 457) hX dL_arePlays_436 (by decide) ?_ ?_
          · refine ev_iconst hX dL_arePlays_457 (v := 0) (by decide +kernel) ?_
            exact ev_iretz0 hX hr dL_arePlays_458
          · refine ev_aload_n hX dL_arePlays_439 rfl ?_
            refine ev_iload hX dL_arePlays_440 rfl ?_
            refine ev_iconst hX dL_arePlays_442 (v := 1) (by decide +kernel) ?_
            refine ev_iadd hX dL_arePlays_443 ?_
            refine ev_callVi hX (k0 := 0) (As := [.inl (x5 + 1)]) (rm := rm_X4_make) (c_X4_make l D cI cC td (x5 + 1) z12.2) (cwV 1 hX.ts gL_arePlays_X4_make rfl rfl rfl (by decide +kernel) ⟨Nat.le_of_ble_eq_true rfl, Nat.le_of_ble_eq_true rfl⟩) rfl rfl rfl rfl rfl rfl ⟨Nat.le_of_ble_eq_true rfl, Nat.le_of_ble_eq_true rfl⟩ dL_arePlays_444 rfl (fun z13 hz13 => ?_)
            refine ev_sipush hX dL_arePlays_447 (v := (-1004)) (by decide +kernel) ?_
            refine ev_icmp_ne (tgt := 457) hX dL_arePlays_450 (by decide) ?_ ?_
            · refine ev_iconst hX dL_arePlays_457 (v := 0) (by decide +kernel) ?_
              exact ev_iretz0 hX hr dL_arePlays_458
            · refine ev_iconst hX dL_arePlays_453 (v := 1) (by decide +kernel) ?_
              refine ev_goto (tgt := 458) hX dL_arePlays_454 (by decide) ?_
              exact ev_iretz1 hX hr dL_arePlays_458
set_option maxHeartbeats 4000000 in
set_option maxRecDepth 100000 in
theorem e_L_arePlays_0_349 (hX : mv_X p s m args meth c D vwCl cI cC tbX td A cL_arePlays 17 RL wsL_arePlays) (hr : meth.sig.returnType = (some .boolean)) (k47 : Int32 → Int32 → Int32 → Int32 → Int32 → Int32 → Int32 → Int32 → Int32 → Int32 → mvW → Option (Int32 × mvW)) (hk47 : ∀ (x1 : Int32) (x2 : Int32) (x3 : Int32) (x4 : Int32) (x5 : Int32) (x6 : Int32) (x7 : Int32) (x8 : Int32) (x9 : Int32) (x10 : Int32) (w : mvW), EV p l e (headSpec wsL_arePlays rm_L_arePlays).room s m args below meth c D vwCl cI cC td A (fun a => a = ad0) (mv_Qi below args s D vwCl cI cC shX ad0 A) 0 0 shX [some (.inr (.inl 0)), some (.inl x1), some (.inl x2), some (.inl x3), some (.inl x4), some (.inl x5), some (.inl x6), some (.inl x7), some (.inl x8), some (.inl x9), some (.inl x10), none, none, none, none, none, none] [] 47 w (k47 x1 x2 x3 x4 x5 x6 x7 x8 x9 x10 w)) (x1 : Int32) (x2 : Int32) (x3 : Int32) (x4 : Int32) (x6 : Int32) (x7 : Int32) (x8 : Int32) (x10 : Int32) (x11 : Int32) (x12 : Int32) (s0 : Int32) (w : mvW) : EV p l e (headSpec wsL_arePlays rm_L_arePlays).room s m args below meth c D vwCl cI cC td A (fun a => a = ad0) (mv_Qi below args s D vwCl cI cC shX ad0 A) 0 0 shX [some (.inr (.inl 0)), some (.inl x1), some (.inl x2), some (.inl x3), some (.inl x4), none, some (.inl x6), some (.inl x7), some (.inl x8), none, some (.inl x10), some (.inl x11), some (.inl x12), none, none, none, none] [.inl s0] 349 w (f_L_arePlays_0_349 k47 x1 x2 x3 x4 x6 x7 x8 x10 x11 x12 s0 w) := by
  rw [f_L_arePlays_0_349]
  refine ev_istore hX dL_arePlays_349 rfl (L' := [some (.inr (.inl 0)), some (.inl x1), some (.inl x2), some (.inl x3), some (.inl x4), none, some (.inl x6), some (.inl x7), some (.inl x8), some (.inl s0), some (.inl x10), some (.inl x11), some (.inl x12), none, none, none, none]) rfl ?_
  refine ev_iload hX dL_arePlays_351 rfl ?_
  refine ev_istore hX dL_arePlays_353 rfl (L' := [some (.inr (.inl 0)), some (.inl x1), some (.inl x2), some (.inl x3), some (.inl x4), some (.inl x11), some (.inl x6), some (.inl x7), some (.inl x8), some (.inl s0), some (.inl x10), some (.inl x11), some (.inl x12), none, none, none, none]) rfl ?_
  refine ev_aload_n hX dL_arePlays_355 rfl ?_
  refine ev_callVi hX (k0 := 0) (As := []) (rm := rm_X4_undo) (c_X4_undo l D cI cC td w) (cwV 0 hX.ts gL_arePlays_X4_undo rfl rfl rfl (by decide +kernel) ⟨Nat.le_of_ble_eq_true rfl, Nat.le_of_ble_eq_true rfl⟩) rfl rfl rfl rfl rfl rfl ⟨Nat.le_of_ble_eq_true rfl, Nat.le_of_ble_eq_true rfl⟩ dL_arePlays_356 rfl (fun z26 hz26 => ?_)
  refine ev_if_lt (tgt := 382) hX dL_arePlays_359 (by decide) ?_ ?_
  · refine ev_iconst hX dL_arePlays_382 (v := 0) (by decide +kernel) ?_
    exact ev_iretz0 hX hr dL_arePlays_383
  · refine ev_aload_n hX dL_arePlays_362 rfl ?_
    refine ev_bipush hX dL_arePlays_363 (v := 8) (by decide +kernel) ?_
    refine ev_callVi hX (k0 := 0) (As := [.inl 8]) (rm := rm_X4_total) (c_X4_total l D cI cC td 8 z26.2) (cwV 1 hX.ts gL_arePlays_X4_total rfl rfl rfl (by decide +kernel) ⟨Nat.le_of_ble_eq_true rfl, Nat.le_of_ble_eq_true rfl⟩) rfl rfl rfl rfl rfl rfl ⟨Nat.le_of_ble_eq_true rfl, Nat.le_of_ble_eq_true rfl⟩ dL_arePlays_365 rfl (fun z27 hz27 => ?_)
    refine ev_iload hX dL_arePlays_368 rfl ?_
    refine ev_icmp_ne (tgt := 382) hX dL_arePlays_370 (by decide) ?_ ?_
    · refine ev_iconst hX dL_arePlays_382 (v := 0) (by decide +kernel) ?_
      exact ev_iretz0 hX hr dL_arePlays_383
    · refine ev_aload_n hX dL_arePlays_373 rfl ?_
      refine ev_iconst hX dL_arePlays_374 (v := 0) (by decide +kernel) ?_
      refine ev_callVi hX (k0 := 0) (As := [.inl 0]) (rm := rm_X4_total) (c_X4_total l D cI cC td 0 z27.2) (cwV 1 hX.ts gL_arePlays_X4_total rfl rfl rfl (by decide +kernel) ⟨Nat.le_of_ble_eq_true rfl, Nat.le_of_ble_eq_true rfl⟩) rfl rfl rfl rfl rfl rfl ⟨Nat.le_of_ble_eq_true rfl, Nat.le_of_ble_eq_true rfl⟩ dL_arePlays_375 rfl (fun z28 hz28 => ?_)
      refine ev_iload_n hX dL_arePlays_378 rfl ?_
      refine ev_icmp_eq (tgt := 384) hX dL_arePlays_379 (by decide) ?_ ?_
      · refine ev_iinc hX dL_arePlays_384 rfl (v := 1) (by decide +kernel) (L' := [some (.inr (.inl 0)), some (.inl x1), some (.inl x2), some (.inl x3), some (.inl x4), some (.inl x11), some (.inl x6), some (.inl x7), some (.inl x8), some (.inl s0), some (.inl (x10 + 1)), some (.inl x11), some (.inl x12), none, none, none, none]) rfl ?_
        refine ev_goto (tgt := 47) hX dL_arePlays_387 (by decide) ?_
        refine ev_mask [true, true, true, true, true, true, true, true, true, true, true, false, false, false, false, false, false] (L' := [some (.inr (.inl 0)), some (.inl x1), some (.inl x2), some (.inl x3), some (.inl x4), some (.inl x11), some (.inl x6), some (.inl x7), some (.inl x8), some (.inl s0), some (.inl (x10 + 1)), none, none, none, none, none, none]) rfl rfl ?_
        exact hk47 x1 x2 x3 x4 x11 x6 x7 x8 s0 (x10 + 1) z28.2
      · refine ev_iconst hX dL_arePlays_382 (v := 0) (by decide +kernel) ?_
        exact ev_iretz0 hX hr dL_arePlays_383
set_option maxHeartbeats 4000000 in
set_option maxRecDepth 100000 in
theorem e_L_arePlays_0_321 (hX : mv_X p s m args meth c D vwCl cI cC tbX td A cL_arePlays 17 RL wsL_arePlays) (hr : meth.sig.returnType = (some .boolean)) (k47 : Int32 → Int32 → Int32 → Int32 → Int32 → Int32 → Int32 → Int32 → Int32 → Int32 → mvW → Option (Int32 × mvW)) (hk47 : ∀ (x1 : Int32) (x2 : Int32) (x3 : Int32) (x4 : Int32) (x5 : Int32) (x6 : Int32) (x7 : Int32) (x8 : Int32) (x9 : Int32) (x10 : Int32) (w : mvW), EV p l e (headSpec wsL_arePlays rm_L_arePlays).room s m args below meth c D vwCl cI cC td A (fun a => a = ad0) (mv_Qi below args s D vwCl cI cC shX ad0 A) 0 0 shX [some (.inr (.inl 0)), some (.inl x1), some (.inl x2), some (.inl x3), some (.inl x4), some (.inl x5), some (.inl x6), some (.inl x7), some (.inl x8), some (.inl x9), some (.inl x10), none, none, none, none, none, none] [] 47 w (k47 x1 x2 x3 x4 x5 x6 x7 x8 x9 x10 w)) (x1 : Int32) (x2 : Int32) (x3 : Int32) (x4 : Int32) (x6 : Int32) (x8 : Int32) (x9 : Int32) (x10 : Int32) (x11 : Int32) (x12 : Int32) (x14 : Int32) (x15 : Int32) (x16 : Int32) (s0 : Int32) (w : mvW) : EV p l e (headSpec wsL_arePlays rm_L_arePlays).room s m args below meth c D vwCl cI cC td A (fun a => a = ad0) (mv_Qi below args s D vwCl cI cC shX ad0 A) 0 0 shX [some (.inr (.inl 0)), some (.inl x1), some (.inl x2), some (.inl x3), some (.inl x4), none, some (.inl x6), none, some (.inl x8), some (.inl x9), some (.inl x10), some (.inl x11), some (.inl x12), none, some (.inl x14), some (.inl x15), some (.inl x16)] [.inl s0] 321 w (f_L_arePlays_0_321 k47 x1 x2 x3 x4 x6 x8 x9 x10 x11 x12 x14 x15 x16 s0 w) := by
  rw [f_L_arePlays_0_321]
  refine ev_istore hX dL_arePlays_321 rfl (L' := [some (.inr (.inl 0)), some (.inl x1), some (.inl x2), some (.inl x3), some (.inl x4), none, some (.inl x6), some (.inl s0), some (.inl x8), some (.inl x9), some (.inl x10), some (.inl x11), some (.inl x12), none, some (.inl x14), some (.inl x15), some (.inl x16)]) rfl ?_
  refine ev_iload hX dL_arePlays_323 rfl ?_
  refine ev_if_eq (tgt := 333) hX dL_arePlays_325 (by decide) ?_ ?_
  · refine ev_iload hX dL_arePlays_333 rfl ?_
    refine ev_istore hX dL_arePlays_335 rfl (L' := [some (.inr (.inl 0)), some (.inl x1), some (.inl x2), some (.inl x3), some (.inl x4), none, some (.inl x6), some (.inl s0), some (.inl x8), some (.inl x9), some (.inl x10), some (.inl x11), some (.inl x12), none, some (.inl x14), some (.inl x15), some (.inl x16)]) rfl ?_
    refine ev_iload hX dL_arePlays_337 rfl ?_
    refine ev_if_eq (tgt := 347) hX dL_arePlays_339 (by decide) ?_ ?_
    · refine ev_iload hX dL_arePlays_347 rfl ?_
      refine ev_mask [true, true, true, true, true, false, true, true, true, false, true, true, true, false, false, false, false] (L' := [some (.inr (.inl 0)), some (.inl x1), some (.inl x2), some (.inl x3), some (.inl x4), none, some (.inl x6), some (.inl s0), some (.inl x8), none, some (.inl x10), some (.inl x11), some (.inl x12), none, none, none, none]) rfl rfl ?_
      exact e_L_arePlays_0_349 hX hr k47 hk47 x1 x2 x3 x4 x6 s0 x8 x10 x11 x12 x9 w
    · refine ev_iload hX dL_arePlays_342 rfl ?_
      refine ev_goto (tgt := 349) hX dL_arePlays_344 (by decide) ?_
      refine ev_mask [true, true, true, true, true, false, true, true, true, false, true, true, true, false, false, false, false] (L' := [some (.inr (.inl 0)), some (.inl x1), some (.inl x2), some (.inl x3), some (.inl x4), none, some (.inl x6), some (.inl s0), some (.inl x8), none, some (.inl x10), some (.inl x11), some (.inl x12), none, none, none, none]) rfl rfl ?_
      exact e_L_arePlays_0_349 hX hr k47 hk47 x1 x2 x3 x4 x6 s0 x8 x10 x11 x12 x15 w
  · refine ev_iload hX dL_arePlays_328 rfl ?_
    refine ev_goto (tgt := 335) hX dL_arePlays_330 (by decide) ?_
    refine ev_istore hX dL_arePlays_335 rfl (L' := [some (.inr (.inl 0)), some (.inl x1), some (.inl x2), some (.inl x3), some (.inl x4), none, some (.inl x6), some (.inl s0), some (.inl x14), some (.inl x9), some (.inl x10), some (.inl x11), some (.inl x12), none, some (.inl x14), some (.inl x15), some (.inl x16)]) rfl ?_
    refine ev_iload hX dL_arePlays_337 rfl ?_
    refine ev_if_eq (tgt := 347) hX dL_arePlays_339 (by decide) ?_ ?_
    · refine ev_iload hX dL_arePlays_347 rfl ?_
      refine ev_mask [true, true, true, true, true, false, true, true, true, false, true, true, true, false, false, false, false] (L' := [some (.inr (.inl 0)), some (.inl x1), some (.inl x2), some (.inl x3), some (.inl x4), none, some (.inl x6), some (.inl s0), some (.inl x14), none, some (.inl x10), some (.inl x11), some (.inl x12), none, none, none, none]) rfl rfl ?_
      exact e_L_arePlays_0_349 hX hr k47 hk47 x1 x2 x3 x4 x6 s0 x14 x10 x11 x12 x9 w
    · refine ev_iload hX dL_arePlays_342 rfl ?_
      refine ev_goto (tgt := 349) hX dL_arePlays_344 (by decide) ?_
      refine ev_mask [true, true, true, true, true, false, true, true, true, false, true, true, true, false, false, false, false] (L' := [some (.inr (.inl 0)), some (.inl x1), some (.inl x2), some (.inl x3), some (.inl x4), none, some (.inl x6), some (.inl s0), some (.inl x14), none, some (.inl x10), some (.inl x11), some (.inl x12), none, none, none, none]) rfl rfl ?_
      exact e_L_arePlays_0_349 hX hr k47 hk47 x1 x2 x3 x4 x6 s0 x14 x10 x11 x12 x15 w
set_option maxHeartbeats 4000000 in
set_option maxRecDepth 100000 in
theorem e_L_arePlays_0_302 (hX : mv_X p s m args meth c D vwCl cI cC tbX td A cL_arePlays 17 RL wsL_arePlays) (hr : meth.sig.returnType = (some .boolean)) (k321 : Int32 → Int32 → Int32 → Int32 → Int32 → Int32 → Int32 → Int32 → Int32 → Int32 → Int32 → Int32 → Int32 → Int32 → mvW → Option (Int32 × mvW)) (hk321 : ∀ (x1 : Int32) (x2 : Int32) (x3 : Int32) (x4 : Int32) (x6 : Int32) (x8 : Int32) (x9 : Int32) (x10 : Int32) (x11 : Int32) (x12 : Int32) (x14 : Int32) (x15 : Int32) (x16 : Int32) (s0 : Int32) (w : mvW), EV p l e (headSpec wsL_arePlays rm_L_arePlays).room s m args below meth c D vwCl cI cC td A (fun a => a = ad0) (mv_Qi below args s D vwCl cI cC shX ad0 A) 0 0 shX [some (.inr (.inl 0)), some (.inl x1), some (.inl x2), some (.inl x3), some (.inl x4), none, some (.inl x6), none, some (.inl x8), some (.inl x9), some (.inl x10), some (.inl x11), some (.inl x12), none, some (.inl x14), some (.inl x15), some (.inl x16)] [.inl s0] 321 w (k321 x1 x2 x3 x4 x6 x8 x9 x10 x11 x12 x14 x15 x16 s0 w)) (x1 : Int32) (x2 : Int32) (x3 : Int32) (x4 : Int32) (x6 : Int32) (x7 : Int32) (x8 : Int32) (x9 : Int32) (x10 : Int32) (x11 : Int32) (x12 : Int32) (x14 : Int32) (x15 : Int32) (w : mvW) : EV p l e (headSpec wsL_arePlays rm_L_arePlays).room s m args below meth c D vwCl cI cC td A (fun a => a = ad0) (mv_Qi below args s D vwCl cI cC shX ad0 A) 0 0 shX [some (.inr (.inl 0)), some (.inl x1), some (.inl x2), some (.inl x3), some (.inl x4), none, some (.inl x6), some (.inl x7), some (.inl x8), some (.inl x9), some (.inl x10), some (.inl x11), some (.inl x12), none, some (.inl x14), some (.inl x15), none] [] 302 w (f_L_arePlays_0_302 k321 x1 x2 x3 x4 x6 x7 x8 x9 x10 x11 x12 x14 x15 w) := by
  rw [f_L_arePlays_0_302]
  refine ev_iconst hX dL_arePlays_302 (v := 1) (by decide +kernel) ?_
  refine ev_goto (tgt := 307) hX dL_arePlays_303 (by decide) ?_
  refine ev_istore hX dL_arePlays_307 rfl (L' := [some (.inr (.inl 0)), some (.inl x1), some (.inl x2), some (.inl x3), some (.inl x4), none, some (.inl x6), some (.inl x7), some (.inl x8), some (.inl x9), some (.inl x10), some (.inl x11), some (.inl x12), none, some (.inl x14), some (.inl x15), some (.inl 1)]) rfl ?_
  refine ev_iload hX dL_arePlays_309 rfl ?_
  refine ev_if_eq (tgt := 319) hX dL_arePlays_311 (by decide) ?_ ?_
  · refine ev_iload hX dL_arePlays_319 rfl ?_
    refine ev_mask [true, true, true, true, true, false, true, false, true, true, true, true, true, false, true, true, true] (L' := [some (.inr (.inl 0)), some (.inl x1), some (.inl x2), some (.inl x3), some (.inl x4), none, some (.inl x6), none, some (.inl x8), some (.inl x9), some (.inl x10), some (.inl x11), some (.inl x12), none, some (.inl x14), some (.inl x15), some (.inl 1)]) rfl rfl ?_
    exact hk321 x1 x2 x3 x4 x6 x8 x9 x10 x11 x12 x14 x15 1 x7 w
  · refine ev_iload hX dL_arePlays_314 rfl ?_
    refine ev_goto (tgt := 321) hX dL_arePlays_316 (by decide) ?_
    refine ev_mask [true, true, true, true, true, false, true, false, true, true, true, true, true, false, true, true, true] (L' := [some (.inr (.inl 0)), some (.inl x1), some (.inl x2), some (.inl x3), some (.inl x4), none, some (.inl x6), none, some (.inl x8), some (.inl x9), some (.inl x10), some (.inl x11), some (.inl x12), none, some (.inl x14), some (.inl x15), some (.inl 1)]) rfl rfl ?_
    exact hk321 x1 x2 x3 x4 x6 x8 x9 x10 x11 x12 x14 x15 1 x11 w
set_option maxHeartbeats 4000000 in
set_option maxRecDepth 100000 in
theorem e_L_arePlays_0_276 (hX : mv_X p s m args meth c D vwCl cI cC tbX td A cL_arePlays 17 RL wsL_arePlays) (hr : meth.sig.returnType = (some .boolean)) (k47 : Int32 → Int32 → Int32 → Int32 → Int32 → Int32 → Int32 → Int32 → Int32 → Int32 → mvW → Option (Int32 × mvW)) (hk47 : ∀ (x1 : Int32) (x2 : Int32) (x3 : Int32) (x4 : Int32) (x5 : Int32) (x6 : Int32) (x7 : Int32) (x8 : Int32) (x9 : Int32) (x10 : Int32) (w : mvW), EV p l e (headSpec wsL_arePlays rm_L_arePlays).room s m args below meth c D vwCl cI cC td A (fun a => a = ad0) (mv_Qi below args s D vwCl cI cC shX ad0 A) 0 0 shX [some (.inr (.inl 0)), some (.inl x1), some (.inl x2), some (.inl x3), some (.inl x4), some (.inl x5), some (.inl x6), some (.inl x7), some (.inl x8), some (.inl x9), some (.inl x10), none, none, none, none, none, none] [] 47 w (k47 x1 x2 x3 x4 x5 x6 x7 x8 x9 x10 w)) (x1 : Int32) (x2 : Int32) (x3 : Int32) (x4 : Int32) (x6 : Int32) (x7 : Int32) (x8 : Int32) (x9 : Int32) (x10 : Int32) (x11 : Int32) (x12 : Int32) (x14 : Int32) (x15 : Int32) (w : mvW) : EV p l e (headSpec wsL_arePlays rm_L_arePlays).room s m args below meth c D vwCl cI cC td A (fun a => a = ad0) (mv_Qi below args s D vwCl cI cC shX ad0 A) 0 0 shX [some (.inr (.inl 0)), some (.inl x1), some (.inl x2), some (.inl x3), some (.inl x4), none, some (.inl x6), some (.inl x7), some (.inl x8), some (.inl x9), some (.inl x10), some (.inl x11), some (.inl x12), none, some (.inl x14), some (.inl x15), none] [] 276 w (f_L_arePlays_0_276 k47 x1 x2 x3 x4 x6 x7 x8 x9 x10 x11 x12 x14 x15 w) := by
  rw [f_L_arePlays_0_276]
  refine ev_iload hX dL_arePlays_276 rfl ?_
  refine ev_if_lt (tgt := 302) hX dL_arePlays_278 (by decide) ?_ ?_
  · refine ev_mask [true, true, true, true, true, false, true, true, true, true, true, true, true, false, true, true, false] (L' := [some (.inr (.inl 0)), some (.inl x1), some (.inl x2), some (.inl x3), some (.inl x4), none, some (.inl x6), some (.inl x7), some (.inl x8), some (.inl x9), some (.inl x10), some (.inl x11), some (.inl x12), none, some (.inl x14), some (.inl x15), none]) rfl rfl ?_
    exact e_L_arePlays_0_302 hX hr (fun x1' x2' x3' x4' x6' x8' x9' x10' x11' x12' x14' x15' x16' s0' w' => f_L_arePlays_0_321 k47 x1' x2' x3' x4' x6' x8' x9' x10' x11' x12' x14' x15' x16' s0' w') (fun x1' x2' x3' x4' x6' x8' x9' x10' x11' x12' x14' x15' x16' s0' w' => e_L_arePlays_0_321 hX hr k47 hk47 x1' x2' x3' x4' x6' x8' x9' x10' x11' x12' x14' x15' x16' s0' w') x1 x2 x3 x4 x6 x7 x8 x9 x10 x11 x12 x14 x15 w
  · refine ev_iload hX dL_arePlays_281 rfl ?_
    refine ev_iload hX dL_arePlays_283 rfl ?_
    refine ev_icmp_lt (tgt := 302) hX dL_arePlays_285 (by decide) ?_ ?_
    · refine ev_mask [true, true, true, true, true, false, true, true, true, true, true, true, true, false, true, true, false] (L' := [some (.inr (.inl 0)), some (.inl x1), some (.inl x2), some (.inl x3), some (.inl x4), none, some (.inl x6), some (.inl x7), some (.inl x8), some (.inl x9), some (.inl x10), some (.inl x11), some (.inl x12), none, some (.inl x14), some (.inl x15), none]) rfl rfl ?_
      exact e_L_arePlays_0_302 hX hr (fun x1' x2' x3' x4' x6' x8' x9' x10' x11' x12' x14' x15' x16' s0' w' => f_L_arePlays_0_321 k47 x1' x2' x3' x4' x6' x8' x9' x10' x11' x12' x14' x15' x16' s0' w') (fun x1' x2' x3' x4' x6' x8' x9' x10' x11' x12' x14' x15' x16' s0' w' => e_L_arePlays_0_321 hX hr k47 hk47 x1' x2' x3' x4' x6' x8' x9' x10' x11' x12' x14' x15' x16' s0' w') x1 x2 x3 x4 x6 x7 x8 x9 x10 x11 x12 x14 x15 w
    · refine ev_iload hX dL_arePlays_288 rfl ?_
      refine ev_iload hX dL_arePlays_290 rfl ?_
      refine ev_icmp_ne (tgt := 306) hX dL_arePlays_292 (by decide) ?_ ?_
      · refine ev_iconst hX dL_arePlays_306 (v := 0) (by decide +kernel) ?_
        refine ev_istore hX dL_arePlays_307 rfl (L' := [some (.inr (.inl 0)), some (.inl x1), some (.inl x2), some (.inl x3), some (.inl x4), none, some (.inl x6), some (.inl x7), some (.inl x8), some (.inl x9), some (.inl x10), some (.inl x11), some (.inl x12), none, some (.inl x14), some (.inl x15), some (.inl 0)]) rfl ?_
        refine ev_iload hX dL_arePlays_309 rfl ?_
        refine ev_if_eq (tgt := 319) hX dL_arePlays_311 (by decide) ?_ ?_
        · refine ev_iload hX dL_arePlays_319 rfl ?_
          refine ev_mask [true, true, true, true, true, false, true, false, true, true, true, true, true, false, true, true, true] (L' := [some (.inr (.inl 0)), some (.inl x1), some (.inl x2), some (.inl x3), some (.inl x4), none, some (.inl x6), none, some (.inl x8), some (.inl x9), some (.inl x10), some (.inl x11), some (.inl x12), none, some (.inl x14), some (.inl x15), some (.inl 0)]) rfl rfl ?_
          exact e_L_arePlays_0_321 hX hr k47 hk47 x1 x2 x3 x4 x6 x8 x9 x10 x11 x12 x14 x15 0 x7 w
        · refine ev_iload hX dL_arePlays_314 rfl ?_
          refine ev_goto (tgt := 321) hX dL_arePlays_316 (by decide) ?_
          refine ev_mask [true, true, true, true, true, false, true, false, true, true, true, true, true, false, true, true, true] (L' := [some (.inr (.inl 0)), some (.inl x1), some (.inl x2), some (.inl x3), some (.inl x4), none, some (.inl x6), none, some (.inl x8), some (.inl x9), some (.inl x10), some (.inl x11), some (.inl x12), none, some (.inl x14), some (.inl x15), some (.inl 0)]) rfl rfl ?_
          exact e_L_arePlays_0_321 hX hr k47 hk47 x1 x2 x3 x4 x6 x8 x9 x10 x11 x12 x14 x15 0 x11 w
      · refine ev_iload hX dL_arePlays_295 rfl ?_
        refine ev_iload hX dL_arePlays_297 rfl ?_
        refine ev_icmp_le (tgt := 306) hX dL_arePlays_299 (by decide) ?_ ?_
        · refine ev_iconst hX dL_arePlays_306 (v := 0) (by decide +kernel) ?_
          refine ev_istore hX dL_arePlays_307 rfl (L' := [some (.inr (.inl 0)), some (.inl x1), some (.inl x2), some (.inl x3), some (.inl x4), none, some (.inl x6), some (.inl x7), some (.inl x8), some (.inl x9), some (.inl x10), some (.inl x11), some (.inl x12), none, some (.inl x14), some (.inl x15), some (.inl 0)]) rfl ?_
          refine ev_iload hX dL_arePlays_309 rfl ?_
          refine ev_if_eq (tgt := 319) hX dL_arePlays_311 (by decide) ?_ ?_
          · refine ev_iload hX dL_arePlays_319 rfl ?_
            refine ev_mask [true, true, true, true, true, false, true, false, true, true, true, true, true, false, true, true, true] (L' := [some (.inr (.inl 0)), some (.inl x1), some (.inl x2), some (.inl x3), some (.inl x4), none, some (.inl x6), none, some (.inl x8), some (.inl x9), some (.inl x10), some (.inl x11), some (.inl x12), none, some (.inl x14), some (.inl x15), some (.inl 0)]) rfl rfl ?_
            exact e_L_arePlays_0_321 hX hr k47 hk47 x1 x2 x3 x4 x6 x8 x9 x10 x11 x12 x14 x15 0 x7 w
          · refine ev_iload hX dL_arePlays_314 rfl ?_
            refine ev_goto (tgt := 321) hX dL_arePlays_316 (by decide) ?_
            refine ev_mask [true, true, true, true, true, false, true, false, true, true, true, true, true, false, true, true, true] (L' := [some (.inr (.inl 0)), some (.inl x1), some (.inl x2), some (.inl x3), some (.inl x4), none, some (.inl x6), none, some (.inl x8), some (.inl x9), some (.inl x10), some (.inl x11), some (.inl x12), none, some (.inl x14), some (.inl x15), some (.inl 0)]) rfl rfl ?_
            exact e_L_arePlays_0_321 hX hr k47 hk47 x1 x2 x3 x4 x6 x8 x9 x10 x11 x12 x14 x15 0 x11 w
        · refine ev_mask [true, true, true, true, true, false, true, true, true, true, true, true, true, false, true, true, false] (L' := [some (.inr (.inl 0)), some (.inl x1), some (.inl x2), some (.inl x3), some (.inl x4), none, some (.inl x6), some (.inl x7), some (.inl x8), some (.inl x9), some (.inl x10), some (.inl x11), some (.inl x12), none, some (.inl x14), some (.inl x15), none]) rfl rfl ?_
          exact e_L_arePlays_0_302 hX hr (fun x1' x2' x3' x4' x6' x8' x9' x10' x11' x12' x14' x15' x16' s0' w' => f_L_arePlays_0_321 k47 x1' x2' x3' x4' x6' x8' x9' x10' x11' x12' x14' x15' x16' s0' w') (fun x1' x2' x3' x4' x6' x8' x9' x10' x11' x12' x14' x15' x16' s0' w' => e_L_arePlays_0_321 hX hr k47 hk47 x1' x2' x3' x4' x6' x8' x9' x10' x11' x12' x14' x15' x16' s0' w') x1 x2 x3 x4 x6 x7 x8 x9 x10 x11 x12 x14 x15 w
set_option maxHeartbeats 4000000 in
set_option maxRecDepth 100000 in
theorem e_L_arePlays_0_253 (hX : mv_X p s m args meth c D vwCl cI cC tbX td A cL_arePlays 17 RL wsL_arePlays) (hr : meth.sig.returnType = (some .boolean)) (k47 : Int32 → Int32 → Int32 → Int32 → Int32 → Int32 → Int32 → Int32 → Int32 → Int32 → mvW → Option (Int32 × mvW)) (hk47 : ∀ (x1 : Int32) (x2 : Int32) (x3 : Int32) (x4 : Int32) (x5 : Int32) (x6 : Int32) (x7 : Int32) (x8 : Int32) (x9 : Int32) (x10 : Int32) (w : mvW), EV p l e (headSpec wsL_arePlays rm_L_arePlays).room s m args below meth c D vwCl cI cC td A (fun a => a = ad0) (mv_Qi below args s D vwCl cI cC shX ad0 A) 0 0 shX [some (.inr (.inl 0)), some (.inl x1), some (.inl x2), some (.inl x3), some (.inl x4), some (.inl x5), some (.inl x6), some (.inl x7), some (.inl x8), some (.inl x9), some (.inl x10), none, none, none, none, none, none] [] 47 w (k47 x1 x2 x3 x4 x5 x6 x7 x8 x9 x10 w)) (x1 : Int32) (x2 : Int32) (x3 : Int32) (x4 : Int32) (x6 : Int32) (x7 : Int32) (x8 : Int32) (x9 : Int32) (x10 : Int32) (x11 : Int32) (x12 : Int32) (x14 : Int32) (x15 : Int32) (s0 : Int32) (s1 : Int32) (w : mvW) : EV p l e (headSpec wsL_arePlays rm_L_arePlays).room s m args below meth c D vwCl cI cC td A (fun a => a = ad0) (mv_Qi below args s D vwCl cI cC shX ad0 A) 0 0 shX [some (.inr (.inl 0)), some (.inl x1), some (.inl x2), some (.inl x3), some (.inl x4), none, some (.inl x6), some (.inl x7), some (.inl x8), some (.inl x9), some (.inl x10), some (.inl x11), some (.inl x12), none, some (.inl x14), some (.inl x15), none] [.inl s0, .inl s1] 253 w (f_L_arePlays_0_253 k47 x1 x2 x3 x4 x6 x7 x8 x9 x10 x11 x12 x14 x15 s0 s1 w) := by
  rw [f_L_arePlays_0_253]
  refine ev_icmp_ne (tgt := 274) hX dL_arePlays_253 (by decide) ?_ ?_
  · refine ev_iconst hX dL_arePlays_274 (v := 0) (by decide +kernel) ?_
    exact ev_iretz0 hX hr dL_arePlays_275
  · refine ev_iload hX dL_arePlays_256 rfl ?_
    refine ev_sipush hX dL_arePlays_258 (v := 20500) (by decide +kernel) ?_
    refine ev_icmp_le (tgt := 276) hX dL_arePlays_261 (by decide) ?_ ?_
    · refine ev_mask [true, true, true, true, true, false, true, true, true, true, true, true, true, false, true, true, false] (L' := [some (.inr (.inl 0)), some (.inl x1), some (.inl x2), some (.inl x3), some (.inl x4), none, some (.inl x6), some (.inl x7), some (.inl x8), some (.inl x9), some (.inl x10), some (.inl x11), some (.inl x12), none, some (.inl x14), some (.inl x15), none]) rfl rfl ?_
      exact e_L_arePlays_0_276 hX hr k47 hk47 x1 x2 x3 x4 x6 x7 x8 x9 x10 x11 x12 x14 x15 w
    · refine ev_aload_n hX dL_arePlays_264 rfl ?_
      refine ev_bipush hX dL_arePlays_265 (v := 11) (by decide +kernel) ?_
      refine ev_callVi hX (k0 := 0) (As := [.inl 11]) (rm := rm_X4_total) (c_X4_total l D cI cC td 11 w) (cwV 1 hX.ts gL_arePlays_X4_total rfl rfl rfl (by decide +kernel) ⟨Nat.le_of_ble_eq_true rfl, Nat.le_of_ble_eq_true rfl⟩) rfl rfl rfl rfl rfl rfl ⟨Nat.le_of_ble_eq_true rfl, Nat.le_of_ble_eq_true rfl⟩ dL_arePlays_267 rfl (fun z25 hz25 => ?_)
      refine ev_iconst hX dL_arePlays_270 (v := 1) (by decide +kernel) ?_
      refine ev_icmp_ge (tgt := 276) hX dL_arePlays_271 (by decide) ?_ ?_
      · refine ev_mask [true, true, true, true, true, false, true, true, true, true, true, true, true, false, true, true, false] (L' := [some (.inr (.inl 0)), some (.inl x1), some (.inl x2), some (.inl x3), some (.inl x4), none, some (.inl x6), some (.inl x7), some (.inl x8), some (.inl x9), some (.inl x10), some (.inl x11), some (.inl x12), none, some (.inl x14), some (.inl x15), none]) rfl rfl ?_
        exact e_L_arePlays_0_276 hX hr k47 hk47 x1 x2 x3 x4 x6 x7 x8 x9 x10 x11 x12 x14 x15 z25.2
      · refine ev_iconst hX dL_arePlays_274 (v := 0) (by decide +kernel) ?_
        exact ev_iretz0 hX hr dL_arePlays_275
set_option maxHeartbeats 4000000 in
set_option maxRecDepth 100000 in
theorem e_L_arePlays_0_234 (hX : mv_X p s m args meth c D vwCl cI cC tbX td A cL_arePlays 17 RL wsL_arePlays) (hr : meth.sig.returnType = (some .boolean)) (k47 : Int32 → Int32 → Int32 → Int32 → Int32 → Int32 → Int32 → Int32 → Int32 → Int32 → mvW → Option (Int32 × mvW)) (hk47 : ∀ (x1 : Int32) (x2 : Int32) (x3 : Int32) (x4 : Int32) (x5 : Int32) (x6 : Int32) (x7 : Int32) (x8 : Int32) (x9 : Int32) (x10 : Int32) (w : mvW), EV p l e (headSpec wsL_arePlays rm_L_arePlays).room s m args below meth c D vwCl cI cC td A (fun a => a = ad0) (mv_Qi below args s D vwCl cI cC shX ad0 A) 0 0 shX [some (.inr (.inl 0)), some (.inl x1), some (.inl x2), some (.inl x3), some (.inl x4), some (.inl x5), some (.inl x6), some (.inl x7), some (.inl x8), some (.inl x9), some (.inl x10), none, none, none, none, none, none] [] 47 w (k47 x1 x2 x3 x4 x5 x6 x7 x8 x9 x10 w)) (x1 : Int32) (x2 : Int32) (x3 : Int32) (x4 : Int32) (x6 : Int32) (x7 : Int32) (x8 : Int32) (x9 : Int32) (x10 : Int32) (x11 : Int32) (x12 : Int32) (x14 : Int32) (x15 : Int32) (s0 : Int32) (s1 : Int32) (w : mvW) : EV p l e (headSpec wsL_arePlays rm_L_arePlays).room s m args below meth c D vwCl cI cC td A (fun a => a = ad0) (mv_Qi below args s D vwCl cI cC shX ad0 A) 0 0 shX [some (.inr (.inl 0)), some (.inl x1), some (.inl x2), some (.inl x3), some (.inl x4), none, some (.inl x6), some (.inl x7), some (.inl x8), some (.inl x9), some (.inl x10), some (.inl x11), some (.inl x12), none, some (.inl x14), some (.inl x15), none] [.inl s0, .inl s1] 234 w (f_L_arePlays_0_234 k47 x1 x2 x3 x4 x6 x7 x8 x9 x10 x11 x12 x14 x15 s0 s1 w) := by
  rw [f_L_arePlays_0_234]
  refine ev_icmp_ne (tgt := 274) hX dL_arePlays_234 (by decide) ?_ ?_
  · refine ev_iconst hX dL_arePlays_274 (v := 0) (by decide +kernel) ?_
    exact ev_iretz0 hX hr dL_arePlays_275
  · refine ev_aload_n hX dL_arePlays_237 rfl ?_
    refine ev_bipush hX dL_arePlays_238 (v := 6) (by decide +kernel) ?_
    refine ev_callVi hX (k0 := 0) (As := [.inl 6]) (rm := rm_X4_total) (c_X4_total l D cI cC td 6 w) (cwV 1 hX.ts gL_arePlays_X4_total rfl rfl rfl (by decide +kernel) ⟨Nat.le_of_ble_eq_true rfl, Nat.le_of_ble_eq_true rfl⟩) rfl rfl rfl rfl rfl rfl ⟨Nat.le_of_ble_eq_true rfl, Nat.le_of_ble_eq_true rfl⟩ dL_arePlays_240 rfl (fun z24 hz24 => ?_)
    refine ev_iload hX dL_arePlays_243 rfl ?_
    refine ev_if_ne (tgt := 252) hX dL_arePlays_245 (by decide) ?_ ?_
    · refine ev_iconst hX dL_arePlays_252 (v := 0) (by decide +kernel) ?_
      refine ev_mask [true, true, true, true, true, false, true, true, true, true, true, true, true, false, true, true, false] (L' := [some (.inr (.inl 0)), some (.inl x1), some (.inl x2), some (.inl x3), some (.inl x4), none, some (.inl x6), some (.inl x7), some (.inl x8), some (.inl x9), some (.inl x10), some (.inl x11), some (.inl x12), none, some (.inl x14), some (.inl x15), none]) rfl rfl ?_
      exact e_L_arePlays_0_253 hX hr k47 hk47 x1 x2 x3 x4 x6 x7 x8 x9 x10 x11 x12 x14 x15 0 z24.1 z24.2
    · refine ev_iconst hX dL_arePlays_248 (v := 1) (by decide +kernel) ?_
      refine ev_goto (tgt := 253) hX dL_arePlays_249 (by decide) ?_
      refine ev_mask [true, true, true, true, true, false, true, true, true, true, true, true, true, false, true, true, false] (L' := [some (.inr (.inl 0)), some (.inl x1), some (.inl x2), some (.inl x3), some (.inl x4), none, some (.inl x6), some (.inl x7), some (.inl x8), some (.inl x9), some (.inl x10), some (.inl x11), some (.inl x12), none, some (.inl x14), some (.inl x15), none]) rfl rfl ?_
      exact e_L_arePlays_0_253 hX hr k47 hk47 x1 x2 x3 x4 x6 x7 x8 x9 x10 x11 x12 x14 x15 1 z24.1 z24.2
set_option maxHeartbeats 4000000 in
set_option maxRecDepth 100000 in
theorem e_L_arePlays_0_211 (hX : mv_X p s m args meth c D vwCl cI cC tbX td A cL_arePlays 17 RL wsL_arePlays) (hr : meth.sig.returnType = (some .boolean)) (k47 : Int32 → Int32 → Int32 → Int32 → Int32 → Int32 → Int32 → Int32 → Int32 → Int32 → mvW → Option (Int32 × mvW)) (hk47 : ∀ (x1 : Int32) (x2 : Int32) (x3 : Int32) (x4 : Int32) (x5 : Int32) (x6 : Int32) (x7 : Int32) (x8 : Int32) (x9 : Int32) (x10 : Int32) (w : mvW), EV p l e (headSpec wsL_arePlays rm_L_arePlays).room s m args below meth c D vwCl cI cC td A (fun a => a = ad0) (mv_Qi below args s D vwCl cI cC shX ad0 A) 0 0 shX [some (.inr (.inl 0)), some (.inl x1), some (.inl x2), some (.inl x3), some (.inl x4), some (.inl x5), some (.inl x6), some (.inl x7), some (.inl x8), some (.inl x9), some (.inl x10), none, none, none, none, none, none] [] 47 w (k47 x1 x2 x3 x4 x5 x6 x7 x8 x9 x10 w)) (x1 : Int32) (x2 : Int32) (x3 : Int32) (x4 : Int32) (x7 : Int32) (x8 : Int32) (x9 : Int32) (x10 : Int32) (x11 : Int32) (x12 : Int32) (x13 : Int32) (x14 : Int32) (x15 : Int32) (s0 : Int32) (w : mvW) : EV p l e (headSpec wsL_arePlays rm_L_arePlays).room s m args below meth c D vwCl cI cC td A (fun a => a = ad0) (mv_Qi below args s D vwCl cI cC shX ad0 A) 0 0 shX [some (.inr (.inl 0)), some (.inl x1), some (.inl x2), some (.inl x3), some (.inl x4), none, none, some (.inl x7), some (.inl x8), some (.inl x9), some (.inl x10), some (.inl x11), some (.inl x12), some (.inl x13), some (.inl x14), some (.inl x15), none] [.inl s0] 211 w (f_L_arePlays_0_211 k47 x1 x2 x3 x4 x7 x8 x9 x10 x11 x12 x13 x14 x15 s0 w) := by
  rw [f_L_arePlays_0_211]
  refine ev_istore hX dL_arePlays_211 rfl (L' := [some (.inr (.inl 0)), some (.inl x1), some (.inl x2), some (.inl x3), some (.inl x4), none, some (.inl s0), some (.inl x7), some (.inl x8), some (.inl x9), some (.inl x10), some (.inl x11), some (.inl x12), some (.inl x13), some (.inl x14), some (.inl x15), none]) rfl ?_
  refine ev_aload_n hX dL_arePlays_213 rfl ?_
  refine ev_iconst hX dL_arePlays_214 (v := 5) (by decide +kernel) ?_
  refine ev_callVi hX (k0 := 0) (As := [.inl 5]) (rm := rm_X4_total) (c_X4_total l D cI cC td 5 w) (cwV 1 hX.ts gL_arePlays_X4_total rfl rfl rfl (by decide +kernel) ⟨Nat.le_of_ble_eq_true rfl, Nat.le_of_ble_eq_true rfl⟩) rfl rfl rfl rfl rfl rfl ⟨Nat.le_of_ble_eq_true rfl, Nat.le_of_ble_eq_true rfl⟩ dL_arePlays_215 rfl (fun z23 hz23 => ?_)
  refine ev_iload hX dL_arePlays_218 rfl ?_
  refine ev_if_ne (tgt := 233) hX dL_arePlays_220 (by decide) ?_ ?_
  · refine ev_iconst hX dL_arePlays_233 (v := 0) (by decide +kernel) ?_
    refine ev_mask [true, true, true, true, true, false, true, true, true, true, true, true, true, false, true, true, false] (L' := [some (.inr (.inl 0)), some (.inl x1), some (.inl x2), some (.inl x3), some (.inl x4), none, some (.inl s0), some (.inl x7), some (.inl x8), some (.inl x9), some (.inl x10), some (.inl x11), some (.inl x12), none, some (.inl x14), some (.inl x15), none]) rfl rfl ?_
    exact e_L_arePlays_0_234 hX hr k47 hk47 x1 x2 x3 x4 s0 x7 x8 x9 x10 x11 x12 x14 x15 0 z23.1 z23.2
  · refine ev_iload hX dL_arePlays_223 rfl ?_
    refine ev_iconst hX dL_arePlays_225 (v := 1) (by decide +kernel) ?_
    refine ev_icmp_ne (tgt := 233) hX dL_arePlays_226 (by decide) ?_ ?_
    · refine ev_iconst hX dL_arePlays_233 (v := 0) (by decide +kernel) ?_
      refine ev_mask [true, true, true, true, true, false, true, true, true, true, true, true, true, false, true, true, false] (L' := [some (.inr (.inl 0)), some (.inl x1), some (.inl x2), some (.inl x3), some (.inl x4), none, some (.inl s0), some (.inl x7), some (.inl x8), some (.inl x9), some (.inl x10), some (.inl x11), some (.inl x12), none, some (.inl x14), some (.inl x15), none]) rfl rfl ?_
      exact e_L_arePlays_0_234 hX hr k47 hk47 x1 x2 x3 x4 s0 x7 x8 x9 x10 x11 x12 x14 x15 0 z23.1 z23.2
    · refine ev_iconst hX dL_arePlays_229 (v := 1) (by decide +kernel) ?_
      refine ev_goto (tgt := 234) hX dL_arePlays_230 (by decide) ?_
      refine ev_mask [true, true, true, true, true, false, true, true, true, true, true, true, true, false, true, true, false] (L' := [some (.inr (.inl 0)), some (.inl x1), some (.inl x2), some (.inl x3), some (.inl x4), none, some (.inl s0), some (.inl x7), some (.inl x8), some (.inl x9), some (.inl x10), some (.inl x11), some (.inl x12), none, some (.inl x14), some (.inl x15), none]) rfl rfl ?_
      exact e_L_arePlays_0_234 hX hr k47 hk47 x1 x2 x3 x4 s0 x7 x8 x9 x10 x11 x12 x14 x15 1 z23.1 z23.2
set_option maxHeartbeats 4000000 in
set_option maxRecDepth 100000 in
theorem e_L_arePlays_0_163 (hX : mv_X p s m args meth c D vwCl cI cC tbX td A cL_arePlays 17 RL wsL_arePlays) (hr : meth.sig.returnType = (some .boolean)) (k47 : Int32 → Int32 → Int32 → Int32 → Int32 → Int32 → Int32 → Int32 → Int32 → Int32 → mvW → Option (Int32 × mvW)) (hk47 : ∀ (x1 : Int32) (x2 : Int32) (x3 : Int32) (x4 : Int32) (x5 : Int32) (x6 : Int32) (x7 : Int32) (x8 : Int32) (x9 : Int32) (x10 : Int32) (w : mvW), EV p l e (headSpec wsL_arePlays rm_L_arePlays).room s m args below meth c D vwCl cI cC td A (fun a => a = ad0) (mv_Qi below args s D vwCl cI cC shX ad0 A) 0 0 shX [some (.inr (.inl 0)), some (.inl x1), some (.inl x2), some (.inl x3), some (.inl x4), some (.inl x5), some (.inl x6), some (.inl x7), some (.inl x8), some (.inl x9), some (.inl x10), none, none, none, none, none, none] [] 47 w (k47 x1 x2 x3 x4 x5 x6 x7 x8 x9 x10 w)) (x1 : Int32) (x2 : Int32) (x3 : Int32) (x4 : Int32) (x6 : Int32) (x7 : Int32) (x8 : Int32) (x9 : Int32) (x10 : Int32) (x11 : Int32) (x12 : Int32) (x13 : Int32) (s0 : Int32) (w : mvW) : EV p l e (headSpec wsL_arePlays rm_L_arePlays).room s m args below meth c D vwCl cI cC td A (fun a => a = ad0) (mv_Qi below args s D vwCl cI cC shX ad0 A) 0 0 shX [some (.inr (.inl 0)), some (.inl x1), some (.inl x2), some (.inl x3), some (.inl x4), none, some (.inl x6), some (.inl x7), some (.inl x8), some (.inl x9), some (.inl x10), some (.inl x11), some (.inl x12), some (.inl x13), none, none, none] [.inl s0] 163 w (f_L_arePlays_0_163 k47 x1 x2 x3 x4 x6 x7 x8 x9 x10 x11 x12 x13 s0 w) := by
  rw [f_L_arePlays_0_163]
  refine ev_aload_n hX dL_arePlays_163 rfl ?_
  refine ev_iconst hX dL_arePlays_164 (v := 1) (by decide +kernel) ?_
  refine ev_iload_n hX dL_arePlays_165 rfl ?_
  refine ev_isub hX dL_arePlays_166 ?_
  refine ev_callSi hX (As := [.inr (.inl 0), .inl (1 - x2)]) (rm := rm_L_isChecked) (c_L_isChecked_0 l D cI cC td (1 - x2) w) (cwS 2 hX.ts gL_arePlays_L_isChecked rfl rfl rfl (by decide +kernel) ⟨Nat.le_of_ble_eq_true rfl, Nat.le_of_ble_eq_true rfl⟩) rfl rfl rfl ⟨Nat.le_of_ble_eq_true rfl, Nat.le_of_ble_eq_true rfl⟩ dL_arePlays_167 rfl (fun z19 hz19 => ?_)
  refine ev_icmp_eq (tgt := 175) hX dL_arePlays_170 (by decide) ?_ ?_
  · refine ev_aload_n hX dL_arePlays_175 rfl ?_
    refine ev_bipush hX dL_arePlays_176 (v := 7) (by decide +kernel) ?_
    refine ev_callVi hX (k0 := 0) (As := [.inl 7]) (rm := rm_X4_total) (c_X4_total l D cI cC td 7 z19.2) (cwV 1 hX.ts gL_arePlays_X4_total rfl rfl rfl (by decide +kernel) ⟨Nat.le_of_ble_eq_true rfl, Nat.le_of_ble_eq_true rfl⟩) rfl rfl rfl rfl rfl rfl ⟨Nat.le_of_ble_eq_true rfl, Nat.le_of_ble_eq_true rfl⟩ dL_arePlays_178 rfl (fun z20 hz20 => ?_)
    refine ev_istore hX dL_arePlays_181 rfl (L' := [some (.inr (.inl 0)), some (.inl x1), some (.inl x2), some (.inl x3), some (.inl x4), none, some (.inl x6), some (.inl x7), some (.inl x8), some (.inl x9), some (.inl x10), some (.inl x11), some (.inl x12), some (.inl x13), some (.inl z20.1), none, none]) rfl ?_
    refine ev_aload_n hX dL_arePlays_183 rfl ?_
    refine ev_iload_n hX dL_arePlays_184 rfl ?_
    refine ev_callVi hX (k0 := 0) (As := [.inl x2]) (rm := rm_X4_worth) (c_X4_worth l D cI cC td x2 z20.2) (cwV 1 hX.ts gL_arePlays_X4_worth rfl rfl rfl (by decide +kernel) ⟨Nat.le_of_ble_eq_true rfl, Nat.le_of_ble_eq_true rfl⟩) rfl rfl rfl rfl rfl rfl ⟨Nat.le_of_ble_eq_true rfl, Nat.le_of_ble_eq_true rfl⟩ dL_arePlays_185 rfl (fun z21 hz21 => ?_)
    refine ev_istore hX dL_arePlays_188 rfl (L' := [some (.inr (.inl 0)), some (.inl x1), some (.inl x2), some (.inl x3), some (.inl x4), none, some (.inl x6), some (.inl x7), some (.inl x8), some (.inl x9), some (.inl x10), some (.inl x11), some (.inl x12), some (.inl x13), some (.inl z20.1), some (.inl z21.1), none]) rfl ?_
    refine ev_iload hX dL_arePlays_190 rfl ?_
    refine ev_if_ge (tgt := 209) hX dL_arePlays_192 (by decide) ?_ ?_
    · refine ev_iload hX dL_arePlays_209 rfl ?_
      refine ev_mask [true, true, true, true, true, false, false, true, true, true, true, true, true, true, true, true, false] (L' := [some (.inr (.inl 0)), some (.inl x1), some (.inl x2), some (.inl x3), some (.inl x4), none, none, some (.inl x7), some (.inl x8), some (.inl x9), some (.inl x10), some (.inl x11), some (.inl x12), some (.inl x13), some (.inl z20.1), some (.inl z21.1), none]) rfl rfl ?_
      exact e_L_arePlays_0_211 hX hr k47 hk47 x1 x2 x3 x4 x7 x8 x9 x10 x11 x12 x13 z20.1 z21.1 x6 z21.2
    · refine ev_aload_n hX dL_arePlays_195 rfl ?_
      refine ev_iconst hX dL_arePlays_196 (v := 5) (by decide +kernel) ?_
      refine ev_callVi hX (k0 := 0) (As := [.inl 5]) (rm := rm_X4_total) (c_X4_total l D cI cC td 5 z21.2) (cwV 1 hX.ts gL_arePlays_X4_total rfl rfl rfl (by decide +kernel) ⟨Nat.le_of_ble_eq_true rfl, Nat.le_of_ble_eq_true rfl⟩) rfl rfl rfl rfl rfl rfl ⟨Nat.le_of_ble_eq_true rfl, Nat.le_of_ble_eq_true rfl⟩ dL_arePlays_197 rfl (fun z22 hz22 => ?_)
      refine ev_iconst hX dL_arePlays_200 (v := 1) (by decide +kernel) ?_
      refine ev_icmp_ne (tgt := 209) hX dL_arePlays_201 (by decide) ?_ ?_
      · refine ev_iload hX dL_arePlays_209 rfl ?_
        refine ev_mask [true, true, true, true, true, false, false, true, true, true, true, true, true, true, true, true, false] (L' := [some (.inr (.inl 0)), some (.inl x1), some (.inl x2), some (.inl x3), some (.inl x4), none, none, some (.inl x7), some (.inl x8), some (.inl x9), some (.inl x10), some (.inl x11), some (.inl x12), some (.inl x13), some (.inl z20.1), some (.inl z21.1), none]) rfl rfl ?_
        exact e_L_arePlays_0_211 hX hr k47 hk47 x1 x2 x3 x4 x7 x8 x9 x10 x11 x12 x13 z20.1 z21.1 x6 z22.2
      · refine ev_iload hX dL_arePlays_204 rfl ?_
        refine ev_goto (tgt := 211) hX dL_arePlays_206 (by decide) ?_
        refine ev_mask [true, true, true, true, true, false, false, true, true, true, true, true, true, true, true, true, false] (L' := [some (.inr (.inl 0)), some (.inl x1), some (.inl x2), some (.inl x3), some (.inl x4), none, none, some (.inl x7), some (.inl x8), some (.inl x9), some (.inl x10), some (.inl x11), some (.inl x12), some (.inl x13), some (.inl z20.1), some (.inl z21.1), none]) rfl rfl ?_
        exact e_L_arePlays_0_211 hX hr k47 hk47 x1 x2 x3 x4 x7 x8 x9 x10 x11 x12 x13 z20.1 z21.1 x11 z22.2
  · refine ev_iconst hX dL_arePlays_173 (v := 0) (by decide +kernel) ?_
    exact ev_iretz0 hX hr dL_arePlays_174
set_option maxHeartbeats 4000000 in
set_option maxRecDepth 100000 in
theorem e_L_arePlays_0_94 (hX : mv_X p s m args meth c D vwCl cI cC tbX td A cL_arePlays 17 RL wsL_arePlays) (hr : meth.sig.returnType = (some .boolean)) (k47 : Int32 → Int32 → Int32 → Int32 → Int32 → Int32 → Int32 → Int32 → Int32 → Int32 → mvW → Option (Int32 × mvW)) (hk47 : ∀ (x1 : Int32) (x2 : Int32) (x3 : Int32) (x4 : Int32) (x5 : Int32) (x6 : Int32) (x7 : Int32) (x8 : Int32) (x9 : Int32) (x10 : Int32) (w : mvW), EV p l e (headSpec wsL_arePlays rm_L_arePlays).room s m args below meth c D vwCl cI cC td A (fun a => a = ad0) (mv_Qi below args s D vwCl cI cC shX ad0 A) 0 0 shX [some (.inr (.inl 0)), some (.inl x1), some (.inl x2), some (.inl x3), some (.inl x4), some (.inl x5), some (.inl x6), some (.inl x7), some (.inl x8), some (.inl x9), some (.inl x10), none, none, none, none, none, none] [] 47 w (k47 x1 x2 x3 x4 x5 x6 x7 x8 x9 x10 w)) (x1 : Int32) (x2 : Int32) (x3 : Int32) (x4 : Int32) (x6 : Int32) (x7 : Int32) (x8 : Int32) (x9 : Int32) (x10 : Int32) (x11 : Int32) (x12 : Int32) (s0 : Int32) (w : mvW) : EV p l e (headSpec wsL_arePlays rm_L_arePlays).room s m args below meth c D vwCl cI cC td A (fun a => a = ad0) (mv_Qi below args s D vwCl cI cC shX ad0 A) 0 0 shX [some (.inr (.inl 0)), some (.inl x1), some (.inl x2), some (.inl x3), some (.inl x4), none, some (.inl x6), some (.inl x7), some (.inl x8), some (.inl x9), some (.inl x10), some (.inl x11), some (.inl x12), none, none, none, none] [.inl s0] 94 w (f_L_arePlays_0_94 k47 x1 x2 x3 x4 x6 x7 x8 x9 x10 x11 x12 s0 w) := by
  rw [f_L_arePlays_0_94]
  refine ev_istore hX dL_arePlays_94 rfl (L' := [some (.inr (.inl 0)), some (.inl x1), some (.inl x2), some (.inl x3), some (.inl x4), none, some (.inl x6), some (.inl x7), some (.inl x8), some (.inl x9), some (.inl x10), some (.inl x11), some (.inl x12), some (.inl s0), none, none, none]) rfl ?_
  refine ev_iload hX dL_arePlays_96 rfl ?_
  refine ev_if_lt (tgt := 173) hX dL_arePlays_98 (by decide) ?_ ?_
  · refine ev_iconst hX dL_arePlays_173 (v := 0) (by decide +kernel) ?_
    exact ev_iretz0 hX hr dL_arePlays_174
  · refine ev_aload_n hX dL_arePlays_101 rfl ?_
    refine ev_iconst hX dL_arePlays_102 (v := 0) (by decide +kernel) ?_
    refine ev_callVi hX (k0 := 0) (As := [.inl 0]) (rm := rm_X4_total) (c_X4_total l D cI cC td 0 w) (cwV 1 hX.ts gL_arePlays_X4_total rfl rfl rfl (by decide +kernel) ⟨Nat.le_of_ble_eq_true rfl, Nat.le_of_ble_eq_true rfl⟩) rfl rfl rfl rfl rfl rfl ⟨Nat.le_of_ble_eq_true rfl, Nat.le_of_ble_eq_true rfl⟩ dL_arePlays_103 rfl (fun z14 hz14 => ?_)
    refine ev_iconst hX dL_arePlays_106 (v := 1) (by decide +kernel) ?_
    refine ev_iload_n hX dL_arePlays_107 rfl ?_
    refine ev_isub hX dL_arePlays_108 ?_
    refine ev_icmp_ne (tgt := 173) hX dL_arePlays_109 (by decide) ?_ ?_
    · refine ev_iconst hX dL_arePlays_173 (v := 0) (by decide +kernel) ?_
      exact ev_iretz0 hX hr dL_arePlays_174
    · refine ev_aload_n hX dL_arePlays_112 rfl ?_
      refine ev_bipush hX dL_arePlays_113 (v := 8) (by decide +kernel) ?_
      refine ev_callVi hX (k0 := 0) (As := [.inl 8]) (rm := rm_X4_total) (c_X4_total l D cI cC td 8 z14.2) (cwV 1 hX.ts gL_arePlays_X4_total rfl rfl rfl (by decide +kernel) ⟨Nat.le_of_ble_eq_true rfl, Nat.le_of_ble_eq_true rfl⟩) rfl rfl rfl rfl rfl rfl ⟨Nat.le_of_ble_eq_true rfl, Nat.le_of_ble_eq_true rfl⟩ dL_arePlays_115 rfl (fun z15 hz15 => ?_)
      refine ev_iload hX dL_arePlays_118 rfl ?_
      refine ev_iconst hX dL_arePlays_120 (v := 1) (by decide +kernel) ?_
      refine ev_iadd hX dL_arePlays_121 ?_
      refine ev_icmp_ne (tgt := 173) hX dL_arePlays_122 (by decide) ?_ ?_
      · refine ev_iconst hX dL_arePlays_173 (v := 0) (by decide +kernel) ?_
        exact ev_iretz0 hX hr dL_arePlays_174
      · refine ev_aload_n hX dL_arePlays_125 rfl ?_
        refine ev_callSi hX (As := [.inr (.inl 0)]) (rm := rm_L_men) (c_L_men_0 l D cI cC td z15.2) (cwS 1 hX.ts gL_arePlays_L_men rfl rfl rfl (by decide +kernel) ⟨Nat.le_of_ble_eq_true rfl, Nat.le_of_ble_eq_true rfl⟩) rfl rfl rfl ⟨Nat.le_of_ble_eq_true rfl, Nat.le_of_ble_eq_true rfl⟩ dL_arePlays_126 rfl (fun z16 hz16 => ?_)
        refine ev_iload hX dL_arePlays_129 rfl ?_
        refine ev_icmp_ne (tgt := 173) hX dL_arePlays_131 (by decide) ?_ ?_
        · refine ev_iconst hX dL_arePlays_173 (v := 0) (by decide +kernel) ?_
          exact ev_iretz0 hX hr dL_arePlays_174
        · refine ev_aload_n hX dL_arePlays_134 rfl ?_
          refine ev_iload_n hX dL_arePlays_135 rfl ?_
          refine ev_callSi hX (As := [.inr (.inl 0), .inl x2]) (rm := rm_L_isChecked) (c_L_isChecked_0 l D cI cC td x2 z16.2) (cwS 2 hX.ts gL_arePlays_L_isChecked rfl rfl rfl (by decide +kernel) ⟨Nat.le_of_ble_eq_true rfl, Nat.le_of_ble_eq_true rfl⟩) rfl rfl rfl ⟨Nat.le_of_ble_eq_true rfl, Nat.le_of_ble_eq_true rfl⟩ dL_arePlays_136 rfl (fun z17 hz17 => ?_)
          refine ev_if_ne (tgt := 173) hX dL_arePlays_139 (by decide) ?_ ?_
          · refine ev_iconst hX dL_arePlays_173 (v := 0) (by decide +kernel) ?_
            exact ev_iretz0 hX hr dL_arePlays_174
          · refine ev_iload hX dL_arePlays_142 rfl ?_
            refine ev_aload_n hX dL_arePlays_144 rfl ?_
            refine ev_iconst hX dL_arePlays_145 (v := 4) (by decide +kernel) ?_
            refine ev_callVi hX (k0 := 0) (As := [.inl 4]) (rm := rm_X4_total) (c_X4_total l D cI cC td 4 z17.2) (cwV 1 hX.ts gL_arePlays_X4_total rfl rfl rfl (by decide +kernel) ⟨Nat.le_of_ble_eq_true rfl, Nat.le_of_ble_eq_true rfl⟩) rfl rfl rfl rfl rfl rfl ⟨Nat.le_of_ble_eq_true rfl, Nat.le_of_ble_eq_true rfl⟩ dL_arePlays_146 rfl (fun z18 hz18 => ?_)
            refine ev_icmp_ne (tgt := 173) hX dL_arePlays_149 (by decide) ?_ ?_
            · refine ev_iconst hX dL_arePlays_173 (v := 0) (by decide +kernel) ?_
              exact ev_iretz0 hX hr dL_arePlays_174
            · refine ev_iload hX dL_arePlays_152 rfl ?_
              refine ev_iconst hX dL_arePlays_154 (v := 1) (by decide +kernel) ?_
              refine ev_icmp_ne (tgt := 162) hX dL_arePlays_155 (by decide) ?_ ?_
              · refine ev_iconst hX dL_arePlays_162 (v := 0) (by decide +kernel) ?_
                refine ev_mask [true, true, true, true, true, false, true, true, true, true, true, true, true, true, false, false, false] (L' := [some (.inr (.inl 0)), some (.inl x1), some (.inl x2), some (.inl x3), some (.inl x4), none, some (.inl x6), some (.inl x7), some (.inl x8), some (.inl x9), some (.inl x10), some (.inl x11), some (.inl x12), some (.inl s0), none, none, none]) rfl rfl ?_
                exact e_L_arePlays_0_163 hX hr k47 hk47 x1 x2 x3 x4 x6 x7 x8 x9 x10 x11 x12 s0 0 z18.2
              · refine ev_iconst hX dL_arePlays_158 (v := 1) (by decide +kernel) ?_
                refine ev_goto (tgt := 163) hX dL_arePlays_159 (by decide) ?_
                refine ev_mask [true, true, true, true, true, false, true, true, true, true, true, true, true, true, false, false, false] (L' := [some (.inr (.inl 0)), some (.inl x1), some (.inl x2), some (.inl x3), some (.inl x4), none, some (.inl x6), some (.inl x7), some (.inl x8), some (.inl x9), some (.inl x10), some (.inl x11), some (.inl x12), some (.inl s0), none, none, none]) rfl rfl ?_
                exact e_L_arePlays_0_163 hX hr k47 hk47 x1 x2 x3 x4 x6 x7 x8 x9 x10 x11 x12 s0 1 z18.2
set_option maxHeartbeats 4000000 in
set_option maxRecDepth 100000 in
theorem e_L_arePlays_0_47 (hX : mv_X p s m args meth c D vwCl cI cC tbX td A cL_arePlays 17 RL wsL_arePlays) (hr : meth.sig.returnType = (some .boolean)) : ∀ (n : Nat) (x1 : Int32) (x2 : Int32) (x3 : Int32) (x4 : Int32) (x5 : Int32) (x6 : Int32) (x7 : Int32) (x8 : Int32) (x9 : Int32) (x10 : Int32) (w : mvW), EV p l e (headSpec wsL_arePlays rm_L_arePlays).room s m args below meth c D vwCl cI cC td A (fun a => a = ad0) (mv_Qi below args s D vwCl cI cC shX ad0 A) 0 0 shX [some (.inr (.inl 0)), some (.inl x1), some (.inl x2), some (.inl x3), some (.inl x4), some (.inl x5), some (.inl x6), some (.inl x7), some (.inl x8), some (.inl x9), some (.inl x10), none, none, none, none, none, none] [] 47 w (f_L_arePlays_0_47 n x1 x2 x3 x4 x5 x6 x7 x8 x9 x10 w) := by
  intro n
  induction n with
  | zero => intro x1 x2 x3 x4 x5 x6 x7 x8 x9 x10 w; exact ev_none
  | succ n ih =>
    intro x1 x2 x3 x4 x5 x6 x7 x8 x9 x10 w
    rw [f_L_arePlays_0_47]
    refine ev_iload hX dL_arePlays_47 rfl ?_
    refine ev_iload_n hX dL_arePlays_49 rfl ?_
    refine ev_icmp_ge (tgt := 390) hX dL_arePlays_50 (by decide) ?_ ?_
    · refine ev_mask [true, true, false, true, false, true, true, true, false, false, false, false, false, false, false, false, false] (L' := [some (.inr (.inl 0)), some (.inl x1), none, some (.inl x3), none, some (.inl x5), some (.inl x6), some (.inl x7), none, none, none, none, none, none, none, none, none]) rfl rfl ?_
      exact e_L_arePlays_0_390 hX hr x1 x3 x5 x6 x7 w
    · refine ev_iload hX dL_arePlays_53 rfl ?_
      refine ev_sipush hX dL_arePlays_55 (v := 1375) (by decide +kernel) ?_
      refine ev_icmp_ge (tgt := 390) hX dL_arePlays_58 (by decide) ?_ ?_
      · refine ev_mask [true, true, false, true, false, true, true, true, false, false, false, false, false, false, false, false, false] (L' := [some (.inr (.inl 0)), some (.inl x1), none, some (.inl x3), none, some (.inl x5), some (.inl x6), some (.inl x7), none, none, none, none, none, none, none, none, none]) rfl rfl ?_
        exact e_L_arePlays_0_390 hX hr x1 x3 x5 x6 x7 w
      · refine ev_aload_n hX dL_arePlays_61 rfl ?_
        refine ev_iload hX dL_arePlays_62 rfl ?_
        refine ev_callVi hX (k0 := 0) (As := [.inl x10]) (rm := rm_X4_playAt) (c_X4_playAt l D cI cC td x10 w) (cwV 1 hX.ts gL_arePlays_X4_playAt rfl rfl rfl (by decide +kernel) ⟨Nat.le_of_ble_eq_true rfl, Nat.le_of_ble_eq_true rfl⟩) rfl rfl rfl rfl rfl rfl ⟨Nat.le_of_ble_eq_true rfl, Nat.le_of_ble_eq_true rfl⟩ dL_arePlays_64 rfl (fun z5 hz5 => ?_)
        refine ev_istore hX dL_arePlays_67 rfl (L' := [some (.inr (.inl 0)), some (.inl x1), some (.inl x2), some (.inl x3), some (.inl x4), some (.inl x5), some (.inl x6), some (.inl x7), some (.inl x8), some (.inl x9), some (.inl x10), some (.inl z5.1), none, none, none, none, none]) rfl ?_
        refine ev_aload_n hX dL_arePlays_69 rfl ?_
        refine ev_bipush hX dL_arePlays_70 (v := 8) (by decide +kernel) ?_
        refine ev_callVi hX (k0 := 0) (As := [.inl 8]) (rm := rm_X4_total) (c_X4_total l D cI cC td 8 z5.2) (cwV 1 hX.ts gL_arePlays_X4_total rfl rfl rfl (by decide +kernel) ⟨Nat.le_of_ble_eq_true rfl, Nat.le_of_ble_eq_true rfl⟩) rfl rfl rfl rfl rfl rfl ⟨Nat.le_of_ble_eq_true rfl, Nat.le_of_ble_eq_true rfl⟩ dL_arePlays_72 rfl (fun z6 hz6 => ?_)
        refine ev_istore hX dL_arePlays_75 rfl (L' := [some (.inr (.inl 0)), some (.inl x1), some (.inl x2), some (.inl x3), some (.inl x4), some (.inl x5), some (.inl x6), some (.inl x7), some (.inl x8), some (.inl x9), some (.inl x10), some (.inl z5.1), some (.inl z6.1), none, none, none, none]) rfl ?_
        refine ev_iload hX dL_arePlays_77 rfl ?_
        refine ev_iload hX dL_arePlays_79 rfl ?_
        refine ev_icmp_gt (tgt := 88) hX dL_arePlays_81 (by decide) ?_ ?_
        · refine ev_aload_n hX dL_arePlays_88 rfl ?_
          refine ev_iload hX dL_arePlays_89 rfl ?_
          refine ev_callVi hX (k0 := 0) (As := [.inl z5.1]) (rm := rm_X4_make) (c_X4_make l D cI cC td z5.1 z6.2) (cwV 1 hX.ts gL_arePlays_X4_make rfl rfl rfl (by decide +kernel) ⟨Nat.le_of_ble_eq_true rfl, Nat.le_of_ble_eq_true rfl⟩) rfl rfl rfl rfl rfl rfl ⟨Nat.le_of_ble_eq_true rfl, Nat.le_of_ble_eq_true rfl⟩ dL_arePlays_91 rfl (fun z7 hz7 => ?_)
          refine ev_mask [true, true, true, true, true, false, true, true, true, true, true, true, true, false, false, false, false] (L' := [some (.inr (.inl 0)), some (.inl x1), some (.inl x2), some (.inl x3), some (.inl x4), none, some (.inl x6), some (.inl x7), some (.inl x8), some (.inl x9), some (.inl x10), some (.inl z5.1), some (.inl z6.1), none, none, none, none]) rfl rfl ?_
          exact e_L_arePlays_0_94 hX hr (fun x1' x2' x3' x4' x5' x6' x7' x8' x9' x10' w' => f_L_arePlays_0_47 n x1' x2' x3' x4' x5' x6' x7' x8' x9' x10' w') (fun x1' x2' x3' x4' x5' x6' x7' x8' x9' x10' w' => ih x1' x2' x3' x4' x5' x6' x7' x8' x9' x10' w') x1 x2 x3 x4 x6 x7 x8 x9 x10 z5.1 z6.1 z7.1 z7.2
        · refine ev_iconst hX dL_arePlays_84 (v := (-1)) (by decide +kernel) ?_
          refine ev_goto (tgt := 94) hX dL_arePlays_85 (by decide) ?_
          refine ev_mask [true, true, true, true, true, false, true, true, true, true, true, true, true, false, false, false, false] (L' := [some (.inr (.inl 0)), some (.inl x1), some (.inl x2), some (.inl x3), some (.inl x4), none, some (.inl x6), some (.inl x7), some (.inl x8), some (.inl x9), some (.inl x10), some (.inl z5.1), some (.inl z6.1), none, none, none, none]) rfl rfl ?_
          exact e_L_arePlays_0_94 hX hr (fun x1' x2' x3' x4' x5' x6' x7' x8' x9' x10' w' => f_L_arePlays_0_47 n x1' x2' x3' x4' x5' x6' x7' x8' x9' x10' w') (fun x1' x2' x3' x4' x5' x6' x7' x8' x9' x10' w' => ih x1' x2' x3' x4' x5' x6' x7' x8' x9' x10' w') x1 x2 x3 x4 x6 x7 x8 x9 x10 z5.1 z6.1 (-1) z6.2
set_option maxHeartbeats 4000000 in
set_option maxRecDepth 100000 in
theorem c_L_arePlays_0 (l : Launch) (D : va_G) (cI cC : ClassId) (td : Nat → Option Nat) (w : mvW) : ∀ z, f_L_arePlays_0 w = some z → mv_Ci l D vwCl cI cC tbX td yL_arePlays wsL_arePlays rm_L_arePlays shX w [.inr (.inl 0)] z := by
  refine mv_starti (own := RL) rfl (by decide) rfl rfl (L0 := [some (.inr (.inl 0)), none, none, none, none, none, none, none, none, none, none, none, none, none, none, none, none]) rfl (fun p e s m args below meth c A ad0 hX hr => ?_)
  rw [f_L_arePlays_0]
  refine ev_aload_n hX dL_arePlays_0 rfl ?_
  refine ev_bipush hX dL_arePlays_1 (v := 7) (by decide +kernel) ?_
  refine ev_callVi hX (k0 := 0) (As := [.inl 7]) (rm := rm_X4_total) (c_X4_total l D cI cC td 7 w) (cwV 1 hX.ts gL_arePlays_X4_total rfl rfl rfl (by decide +kernel) ⟨Nat.le_of_ble_eq_true rfl, Nat.le_of_ble_eq_true rfl⟩) rfl rfl rfl rfl rfl rfl ⟨Nat.le_of_ble_eq_true rfl, Nat.le_of_ble_eq_true rfl⟩ dL_arePlays_3 rfl (fun z1 hz1 => ?_)
  refine ev_istore_n hX dL_arePlays_6 rfl (L' := [some (.inr (.inl 0)), some (.inl z1.1), none, none, none, none, none, none, none, none, none, none, none, none, none, none, none]) rfl ?_
  refine ev_aload_n hX dL_arePlays_7 rfl ?_
  refine ev_iconst hX dL_arePlays_8 (v := 0) (by decide +kernel) ?_
  refine ev_callVi hX (k0 := 0) (As := [.inl 0]) (rm := rm_X4_total) (c_X4_total l D cI cC td 0 z1.2) (cwV 1 hX.ts gL_arePlays_X4_total rfl rfl rfl (by decide +kernel) ⟨Nat.le_of_ble_eq_true rfl, Nat.le_of_ble_eq_true rfl⟩) rfl rfl rfl rfl rfl rfl ⟨Nat.le_of_ble_eq_true rfl, Nat.le_of_ble_eq_true rfl⟩ dL_arePlays_9 rfl (fun z2 hz2 => ?_)
  refine ev_istore_n hX dL_arePlays_12 rfl (L' := [some (.inr (.inl 0)), some (.inl z1.1), some (.inl z2.1), none, none, none, none, none, none, none, none, none, none, none, none, none, none]) rfl ?_
  refine ev_aload_n hX dL_arePlays_13 rfl ?_
  refine ev_iconst hX dL_arePlays_14 (v := 4) (by decide +kernel) ?_
  refine ev_callVi hX (k0 := 0) (As := [.inl 4]) (rm := rm_X4_total) (c_X4_total l D cI cC td 4 z2.2) (cwV 1 hX.ts gL_arePlays_X4_total rfl rfl rfl (by decide +kernel) ⟨Nat.le_of_ble_eq_true rfl, Nat.le_of_ble_eq_true rfl⟩) rfl rfl rfl rfl rfl rfl ⟨Nat.le_of_ble_eq_true rfl, Nat.le_of_ble_eq_true rfl⟩ dL_arePlays_15 rfl (fun z3 hz3 => ?_)
  refine ev_istore_n hX dL_arePlays_18 rfl (L' := [some (.inr (.inl 0)), some (.inl z1.1), some (.inl z2.1), some (.inl z3.1), none, none, none, none, none, none, none, none, none, none, none, none, none]) rfl ?_
  refine ev_aload_n hX dL_arePlays_19 rfl ?_
  refine ev_callSi hX (As := [.inr (.inl 0)]) (rm := rm_L_men) (c_L_men_0 l D cI cC td z3.2) (cwS 1 hX.ts gL_arePlays_L_men rfl rfl rfl (by decide +kernel) ⟨Nat.le_of_ble_eq_true rfl, Nat.le_of_ble_eq_true rfl⟩) rfl rfl rfl ⟨Nat.le_of_ble_eq_true rfl, Nat.le_of_ble_eq_true rfl⟩ dL_arePlays_20 rfl (fun z4 hz4 => ?_)
  refine ev_istore hX dL_arePlays_23 rfl (L' := [some (.inr (.inl 0)), some (.inl z1.1), some (.inl z2.1), some (.inl z3.1), some (.inl z4.1), none, none, none, none, none, none, none, none, none, none, none, none]) rfl ?_
  refine ev_iconst hX dL_arePlays_25 (v := (-1)) (by decide +kernel) ?_
  refine ev_istore hX dL_arePlays_26 rfl (L' := [some (.inr (.inl 0)), some (.inl z1.1), some (.inl z2.1), some (.inl z3.1), some (.inl z4.1), some (.inl (-1)), none, none, none, none, none, none, none, none, none, none, none]) rfl ?_
  refine ev_sipush hX dL_arePlays_28 (v := (-1005)) (by decide +kernel) ?_
  refine ev_istore hX dL_arePlays_31 rfl (L' := [some (.inr (.inl 0)), some (.inl z1.1), some (.inl z2.1), some (.inl z3.1), some (.inl z4.1), some (.inl (-1)), some (.inl (-1005)), none, none, none, none, none, none, none, none, none, none]) rfl ?_
  refine ev_sipush hX dL_arePlays_33 (v := (-1005)) (by decide +kernel) ?_
  refine ev_istore hX dL_arePlays_36 rfl (L' := [some (.inr (.inl 0)), some (.inl z1.1), some (.inl z2.1), some (.inl z3.1), some (.inl z4.1), some (.inl (-1)), some (.inl (-1005)), some (.inl (-1005)), none, none, none, none, none, none, none, none, none]) rfl ?_
  refine ev_iconst hX dL_arePlays_38 (v := 0) (by decide +kernel) ?_
  refine ev_istore hX dL_arePlays_39 rfl (L' := [some (.inr (.inl 0)), some (.inl z1.1), some (.inl z2.1), some (.inl z3.1), some (.inl z4.1), some (.inl (-1)), some (.inl (-1005)), some (.inl (-1005)), some (.inl 0), none, none, none, none, none, none, none, none]) rfl ?_
  refine ev_iconst hX dL_arePlays_41 (v := 0) (by decide +kernel) ?_
  refine ev_istore hX dL_arePlays_42 rfl (L' := [some (.inr (.inl 0)), some (.inl z1.1), some (.inl z2.1), some (.inl z3.1), some (.inl z4.1), some (.inl (-1)), some (.inl (-1005)), some (.inl (-1005)), some (.inl 0), some (.inl 0), none, none, none, none, none, none, none]) rfl ?_
  refine ev_iconst hX dL_arePlays_44 (v := 0) (by decide +kernel) ?_
  refine ev_istore hX dL_arePlays_45 rfl (L' := [some (.inr (.inl 0)), some (.inl z1.1), some (.inl z2.1), some (.inl z3.1), some (.inl z4.1), some (.inl (-1)), some (.inl (-1005)), some (.inl (-1005)), some (.inl 0), some (.inl 0), some (.inl 0), none, none, none, none, none, none]) rfl ?_
  refine ev_mask [true, true, true, true, true, true, true, true, true, true, true, false, false, false, false, false, false] (L' := [some (.inr (.inl 0)), some (.inl z1.1), some (.inl z2.1), some (.inl z3.1), some (.inl z4.1), some (.inl (-1)), some (.inl (-1005)), some (.inl (-1005)), some (.inl 0), some (.inl 0), some (.inl 0), none, none, none, none, none, none]) rfl rfl ?_
  exact e_L_arePlays_0_47 hX hr 4096 z1.1 z2.1 z3.1 z4.1 (-1) (-1005) (-1005) 0 0 0 z4.2
def rm_L_does : Room := { frames := 8, cells := 0, slots := 0, locals := 191 }
set_option maxHeartbeats 4000000 in
set_option maxRecDepth 100000 in
theorem e_L_does_0_392 (hX : mv_X p s m args meth c D vwCl cI cC tbX td A cL_does 16 RL wsL_does) (hr : meth.sig.returnType = (some .boolean)) (x14 : Int32) (s0 : Int32) (w : mvW) : EV p l e (headSpec wsL_does rm_L_does).room s m args below meth c D vwCl cI cC td A (fun a => a = ad0) (mv_Qi below args s D vwCl cI cC shX ad0 A) 0 0 shX [some (.inr (.inl 0)), none, none, none, none, none, none, none, none, none, none, none, none, none, some (.inl x14), none] [.inl s0] 392 w (f_L_does_0_392 x14 s0 w) := by
  rw [f_L_does_0_392]
  refine ev_istore hX dL_does_392 rfl (L' := [some (.inr (.inl 0)), none, none, none, none, none, none, none, none, none, none, none, none, none, some (.inl x14), some (.inl s0)]) rfl ?_
  refine ev_iload hX dL_does_394 rfl ?_
  refine ev_if_eq (tgt := 408) hX dL_does_396 (by decide) ?_ ?_
  · refine ev_iconst hX dL_does_408 (v := 1) (by decide +kernel) ?_
    refine ev_goto (tgt := 413) hX dL_does_409 (by decide) ?_
    exact ev_iretz1 hX hr dL_does_413
  · refine ev_aload_n hX dL_does_399 rfl ?_
    refine ev_iload hX dL_does_400 rfl ?_
    refine ev_callVi hX (k0 := 0) (As := [.inl s0]) (rm := rm_X4_make) (c_X4_make l D cI cC td s0 w) (cwV 1 hX.ts gL_does_X4_make rfl rfl rfl (by decide +kernel) ⟨Nat.le_of_ble_eq_true rfl, Nat.le_of_ble_eq_true rfl⟩) rfl rfl rfl rfl rfl rfl ⟨Nat.le_of_ble_eq_true rfl, Nat.le_of_ble_eq_true rfl⟩ dL_does_402 rfl (fun z22 hz22 => ?_)
    refine ev_if_lt (tgt := 412) hX dL_does_405 (by decide) ?_ ?_
    · refine ev_iconst hX dL_does_412 (v := 0) (by decide +kernel) ?_
      exact ev_iretz0 hX hr dL_does_413
    · refine ev_iconst hX dL_does_408 (v := 1) (by decide +kernel) ?_
      refine ev_goto (tgt := 413) hX dL_does_409 (by decide) ?_
      exact ev_iretz1 hX hr dL_does_413
set_option maxHeartbeats 4000000 in
set_option maxRecDepth 100000 in
theorem e_L_does_0_306 (hX : mv_X p s m args meth c D vwCl cI cC tbX td A cL_does 16 RL wsL_does) (hr : meth.sig.returnType = (some .boolean)) (x11 : Int32) (s0 : Int32) (w : mvW) : EV p l e (headSpec wsL_does rm_L_does).room s m args below meth c D vwCl cI cC td A (fun a => a = ad0) (mv_Qi below args s D vwCl cI cC shX ad0 A) 0 0 shX [some (.inr (.inl 0)), none, none, none, none, none, none, none, none, none, none, some (.inl x11), none, none, none, none] [.inl s0] 306 w (f_L_does_0_306 x11 s0 w) := by
  rw [f_L_does_0_306]
  refine ev_istore hX dL_does_306 rfl (L' := [some (.inr (.inl 0)), none, none, none, none, none, none, none, none, none, none, some (.inl x11), some (.inl s0), none, none, none]) rfl ?_
  refine ev_aload_n hX dL_does_308 rfl ?_
  refine ev_iload hX dL_does_309 rfl ?_
  refine ev_callVi hX (k0 := 0) (As := [.inl x11]) (rm := rm_X4_setSide) (c_X4_setSide l D cI cC td x11 w) (cwV 1 hX.ts gL_does_X4_setSide rfl rfl rfl (by decide +kernel) ⟨Nat.le_of_ble_eq_true rfl, Nat.le_of_ble_eq_true rfl⟩) rfl rfl rfl rfl rfl rfl ⟨Nat.le_of_ble_eq_true rfl, Nat.le_of_ble_eq_true rfl⟩ dL_does_311 rfl (fun z19 hz19 => ?_)
  refine ev_istore hX dL_does_314 rfl (L' := [some (.inr (.inl 0)), none, none, none, none, none, none, none, none, none, none, some (.inl x11), some (.inl s0), some (.inl z19.1), none, none]) rfl ?_
  refine ev_iload hX dL_does_316 rfl ?_
  refine ev_if_ge (tgt := 336) hX dL_does_318 (by decide) ?_ ?_
  · refine ev_iload hX dL_does_336 rfl ?_
    refine ev_aload_n hX dL_does_338 rfl ?_
    refine ev_bipush hX dL_does_339 (v := 7) (by decide +kernel) ?_
    refine ev_callVi hX (k0 := 0) (As := [.inl 7]) (rm := rm_X4_total) (c_X4_total l D cI cC td 7 z19.2) (cwV 1 hX.ts gL_does_X4_total rfl rfl rfl (by decide +kernel) ⟨Nat.le_of_ble_eq_true rfl, Nat.le_of_ble_eq_true rfl⟩) rfl rfl rfl rfl rfl rfl ⟨Nat.le_of_ble_eq_true rfl, Nat.le_of_ble_eq_true rfl⟩ dL_does_341 rfl (fun z20 hz20 => ?_)
    refine ev_icmp_ne (tgt := 361) hX dL_does_344 (by decide) ?_ ?_
    · refine ev_iconst hX dL_does_361 (v := 0) (by decide +kernel) ?_
      exact ev_iretz0 hX hr dL_does_362
    · refine ev_aload_n hX dL_does_347 rfl ?_
      refine ev_iconst hX dL_does_348 (v := 0) (by decide +kernel) ?_
      refine ev_callVi hX (k0 := 0) (As := [.inl 0]) (rm := rm_X4_total) (c_X4_total l D cI cC td 0 z20.2) (cwV 1 hX.ts gL_does_X4_total rfl rfl rfl (by decide +kernel) ⟨Nat.le_of_ble_eq_true rfl, Nat.le_of_ble_eq_true rfl⟩) rfl rfl rfl rfl rfl rfl ⟨Nat.le_of_ble_eq_true rfl, Nat.le_of_ble_eq_true rfl⟩ dL_does_349 rfl (fun z21 hz21 => ?_)
      refine ev_iload hX dL_does_352 rfl ?_
      refine ev_icmp_ne (tgt := 361) hX dL_does_354 (by decide) ?_ ?_
      · refine ev_iconst hX dL_does_361 (v := 0) (by decide +kernel) ?_
        exact ev_iretz0 hX hr dL_does_362
      · refine ev_iconst hX dL_does_357 (v := 1) (by decide +kernel) ?_
        refine ev_goto (tgt := 362) hX dL_does_358 (by decide) ?_
        exact ev_iretz1 hX hr dL_does_362
  · refine ev_iload hX dL_does_321 rfl ?_
    refine ev_iload hX dL_does_323 rfl ?_
    refine ev_icmp_ne (tgt := 332) hX dL_does_325 (by decide) ?_ ?_
    · refine ev_iconst hX dL_does_332 (v := 0) (by decide +kernel) ?_
      refine ev_goto (tgt := 362) hX dL_does_333 (by decide) ?_
      exact ev_iretz0 hX hr dL_does_362
    · refine ev_iconst hX dL_does_328 (v := 1) (by decide +kernel) ?_
      refine ev_goto (tgt := 362) hX dL_does_329 (by decide) ?_
      exact ev_iretz1 hX hr dL_does_362
set_option maxHeartbeats 4000000 in
set_option maxRecDepth 100000 in
theorem e_L_does_0_260 (hX : mv_X p s m args meth c D vwCl cI cC tbX td A cL_does 16 RL wsL_does) (hr : meth.sig.returnType = (some .boolean)) (x7 : Int32) (x8 : Int32) (x9 : Int32) (s0 : Int32) (s1 : Int32) (w : mvW) : EV p l e (headSpec wsL_does rm_L_does).room s m args below meth c D vwCl cI cC td A (fun a => a = ad0) (mv_Qi below args s D vwCl cI cC shX ad0 A) 0 0 shX [some (.inr (.inl 0)), none, none, none, none, none, none, some (.inl x7), some (.inl x8), some (.inl x9), none, none, none, none, none, none] [.inl s0, .inl s1] 260 w (f_L_does_0_260 x7 x8 x9 s0 s1 w) := by
  rw [f_L_does_0_260]
  refine ev_icmp_ne (tgt := 280) hX dL_does_260 (by decide) ?_ ?_
  · refine ev_iconst hX dL_does_280 (v := 0) (by decide +kernel) ?_
    exact ev_iretz0 hX hr dL_does_281
  · refine ev_aload_n hX dL_does_263 rfl ?_
    refine ev_iload hX dL_does_264 rfl ?_
    refine ev_iload hX dL_does_266 rfl ?_
    refine ev_callVi hX (k0 := 0) (As := [.inl x8, .inl x7]) (rm := rm_X4_hand) (c_X4_hand l D cI cC td x8 x7 w) (cwV 2 hX.ts gL_does_X4_hand rfl rfl rfl (by decide +kernel) ⟨Nat.le_of_ble_eq_true rfl, Nat.le_of_ble_eq_true rfl⟩) rfl rfl rfl rfl rfl rfl ⟨Nat.le_of_ble_eq_true rfl, Nat.le_of_ble_eq_true rfl⟩ dL_does_268 rfl (fun z18 hz18 => ?_)
    refine ev_iload hX dL_does_271 rfl ?_
    refine ev_icmp_ne (tgt := 280) hX dL_does_273 (by decide) ?_ ?_
    · refine ev_iconst hX dL_does_280 (v := 0) (by decide +kernel) ?_
      exact ev_iretz0 hX hr dL_does_281
    · refine ev_iconst hX dL_does_276 (v := 1) (by decide +kernel) ?_
      refine ev_goto (tgt := 281) hX dL_does_277 (by decide) ?_
      exact ev_iretz1 hX hr dL_does_281
set_option maxHeartbeats 4000000 in
set_option maxRecDepth 100000 in
theorem e_L_does_0_169 (hX : mv_X p s m args meth c D vwCl cI cC tbX td A cL_does 16 RL wsL_does) (hr : meth.sig.returnType = (some .boolean)) (x2 : Int32) (x4 : Int32) (w : mvW) : EV p l e (headSpec wsL_does rm_L_does).room s m args below meth c D vwCl cI cC td A (fun a => a = ad0) (mv_Qi below args s D vwCl cI cC shX ad0 A) 0 0 shX [some (.inr (.inl 0)), none, some (.inl x2), none, some (.inl x4), none, none, none, none, none, none, none, none, none, none, none] [] 169 w (f_L_does_0_169 x2 x4 w) := by
  rw [f_L_does_0_169]
  refine ev_aload_n hX dL_does_169 rfl ?_
  refine ev_iload_n hX dL_does_170 rfl ?_
  refine ev_callVi hX (k0 := 0) (As := [.inl x2]) (rm := rm_X4_takeOff) (c_X4_takeOff l D cI cC td x2 w) (cwV 1 hX.ts gL_does_X4_takeOff rfl rfl rfl (by decide +kernel) ⟨Nat.le_of_ble_eq_true rfl, Nat.le_of_ble_eq_true rfl⟩) rfl rfl rfl rfl rfl rfl ⟨Nat.le_of_ble_eq_true rfl, Nat.le_of_ble_eq_true rfl⟩ dL_does_171 rfl (fun z16 hz16 => ?_)
  refine ev_iload hX dL_does_174 rfl ?_
  refine ev_icmp_ne (tgt := 194) hX dL_does_176 (by decide) ?_ ?_
  · refine ev_iconst hX dL_does_194 (v := 0) (by decide +kernel) ?_
    exact ev_iretz0 hX hr dL_does_195
  · refine ev_aload_n hX dL_does_179 rfl ?_
    refine ev_iload_n hX dL_does_180 rfl ?_
    refine ev_callVi hX (k0 := 0) (As := [.inl x2]) (rm := rm_X4_man) (c_X4_man l D cI cC td x2 z16.2) (cwV 1 hX.ts gL_does_X4_man rfl rfl rfl (by decide +kernel) ⟨Nat.le_of_ble_eq_true rfl, Nat.le_of_ble_eq_true rfl⟩) rfl rfl rfl rfl rfl rfl ⟨Nat.le_of_ble_eq_true rfl, Nat.le_of_ble_eq_true rfl⟩ dL_does_181 rfl (fun z17 hz17 => ?_)
    refine ev_sipush hX dL_does_184 (v := (-1005)) (by decide +kernel) ?_
    refine ev_icmp_ne (tgt := 194) hX dL_does_187 (by decide) ?_ ?_
    · refine ev_iconst hX dL_does_194 (v := 0) (by decide +kernel) ?_
      exact ev_iretz0 hX hr dL_does_195
    · refine ev_iconst hX dL_does_190 (v := 1) (by decide +kernel) ?_
      refine ev_goto (tgt := 195) hX dL_does_191 (by decide) ?_
      exact ev_iretz1 hX hr dL_does_195
set_option maxHeartbeats 4000000 in
set_option maxRecDepth 100000 in
theorem e_L_does_0_112 (hX : mv_X p s m args meth c D vwCl cI cC tbX td A cL_does 16 RL wsL_does) (hr : meth.sig.returnType = (some .boolean)) (x3 : Int32) (x4 : Int32) (x5 : Int32) (s0 : Int32) (w : mvW) : EV p l e (headSpec wsL_does rm_L_does).room s m args below meth c D vwCl cI cC td A (fun a => a = ad0) (mv_Qi below args s D vwCl cI cC shX ad0 A) 0 0 shX [none, none, none, some (.inl x3), some (.inl x4), some (.inl x5), none, none, none, none, none, none, none, none, none, none] [.inl s0] 112 w (f_L_does_0_112 x3 x4 x5 s0 w) := by
  rw [f_L_does_0_112]
  refine ev_iload hX dL_does_112 rfl ?_
  refine ev_iload_n hX dL_does_114 rfl ?_
  refine ev_icmp_ne (tgt := 124) hX dL_does_115 (by decide) ?_ ?_
  · refine ev_iload hX dL_does_124 rfl ?_
    refine ev_if_lt (tgt := 134) hX dL_does_126 (by decide) ?_ ?_
    · refine ev_iload hX dL_does_134 rfl ?_
      refine ev_iconst hX dL_does_136 (v := 1) (by decide +kernel) ?_
      refine ev_iadd hX dL_does_137 ?_
      refine ev_icmp_ne (tgt := 145) hX dL_does_138 (by decide) ?_ ?_
      · refine ev_iconst hX dL_does_145 (v := 0) (by decide +kernel) ?_
        exact ev_iretz0 hX hr dL_does_146
      · refine ev_iconst hX dL_does_141 (v := 1) (by decide +kernel) ?_
        refine ev_goto (tgt := 146) hX dL_does_142 (by decide) ?_
        exact ev_iretz1 hX hr dL_does_146
    · refine ev_iload hX dL_does_129 rfl ?_
      refine ev_goto (tgt := 138) hX dL_does_131 (by decide) ?_
      refine ev_icmp_ne (tgt := 145) hX dL_does_138 (by decide) ?_ ?_
      · refine ev_iconst hX dL_does_145 (v := 0) (by decide +kernel) ?_
        exact ev_iretz0 hX hr dL_does_146
      · refine ev_iconst hX dL_does_141 (v := 1) (by decide +kernel) ?_
        refine ev_goto (tgt := 146) hX dL_does_142 (by decide) ?_
        exact ev_iretz1 hX hr dL_does_146
  · refine ev_sipush hX dL_does_118 (v := (-1005)) (by decide +kernel) ?_
    refine ev_goto (tgt := 138) hX dL_does_121 (by decide) ?_
    refine ev_icmp_ne (tgt := 145) hX dL_does_138 (by decide) ?_ ?_
    · refine ev_iconst hX dL_does_145 (v := 0) (by decide +kernel) ?_
      exact ev_iretz0 hX hr dL_does_146
    · refine ev_iconst hX dL_does_141 (v := 1) (by decide +kernel) ?_
      refine ev_goto (tgt := 146) hX dL_does_142 (by decide) ?_
      exact ev_iretz1 hX hr dL_does_146
set_option maxHeartbeats 4000000 in
set_option maxRecDepth 100000 in
theorem e_L_does_0_87 (hX : mv_X p s m args meth c D vwCl cI cC tbX td A cL_does 16 RL wsL_does) (hr : meth.sig.returnType = (some .boolean)) (x2 : Int32) (x3 : Int32) (x4 : Int32) (x5 : Int32) (s0 : Int32) (w : mvW) : EV p l e (headSpec wsL_does rm_L_does).room s m args below meth c D vwCl cI cC td A (fun a => a = ad0) (mv_Qi below args s D vwCl cI cC shX ad0 A) 0 0 shX [some (.inr (.inl 0)), none, some (.inl x2), some (.inl x3), some (.inl x4), some (.inl x5), none, none, none, none, none, none, none, none, none, none] [.inl s0] 87 w (f_L_does_0_87 x2 x3 x4 x5 s0 w) := by
  rw [f_L_does_0_87]
  refine ev_istore hX dL_does_87 rfl (L' := [some (.inr (.inl 0)), none, some (.inl x2), some (.inl x3), some (.inl x4), some (.inl x5), some (.inl s0), none, none, none, none, none, none, none, none, none]) rfl ?_
  refine ev_aload_n hX dL_does_89 rfl ?_
  refine ev_iload_n hX dL_does_90 rfl ?_
  refine ev_iload_n hX dL_does_91 rfl ?_
  refine ev_callVi hX (k0 := 0) (As := [.inl x2, .inl x3]) (rm := rm_X4_put) (c_X4_put l D cI cC td x2 x3 w) (cwV 2 hX.ts gL_does_X4_put rfl rfl rfl (by decide +kernel) ⟨Nat.le_of_ble_eq_true rfl, Nat.le_of_ble_eq_true rfl⟩) rfl rfl rfl rfl rfl rfl ⟨Nat.le_of_ble_eq_true rfl, Nat.le_of_ble_eq_true rfl⟩ dL_does_92 rfl (fun z15 hz15 => ?_)
  refine ev_iload hX dL_does_95 rfl ?_
  refine ev_if_lt (tgt := 112) hX dL_does_97 (by decide) ?_ ?_
  · refine ev_mask [false, false, false, true, true, true, false, false, false, false, false, false, false, false, false, false] (L' := [none, none, none, some (.inl x3), some (.inl x4), some (.inl x5), none, none, none, none, none, none, none, none, none, none]) rfl rfl ?_
    exact e_L_does_0_112 hX hr x3 x4 x5 z15.1 z15.2
  · refine ev_iload hX dL_does_100 rfl ?_
    refine ev_iload_n hX dL_does_102 rfl ?_
    refine ev_icmp_eq (tgt := 112) hX dL_does_103 (by decide) ?_ ?_
    · refine ev_mask [false, false, false, true, true, true, false, false, false, false, false, false, false, false, false, false] (L' := [none, none, none, some (.inl x3), some (.inl x4), some (.inl x5), none, none, none, none, none, none, none, none, none, none]) rfl rfl ?_
      exact e_L_does_0_112 hX hr x3 x4 x5 z15.1 z15.2
    · refine ev_sipush hX dL_does_106 (v := (-1004)) (by decide +kernel) ?_
      refine ev_goto (tgt := 138) hX dL_does_109 (by decide) ?_
      refine ev_icmp_ne (tgt := 145) hX dL_does_138 (by decide) ?_ ?_
      · refine ev_iconst hX dL_does_145 (v := 0) (by decide +kernel) ?_
        exact ev_iretz0 hX hr dL_does_146
      · refine ev_iconst hX dL_does_141 (v := 1) (by decide +kernel) ?_
        refine ev_goto (tgt := 146) hX dL_does_142 (by decide) ?_
        exact ev_iretz1 hX hr dL_does_146
set_option maxHeartbeats 4000000 in
set_option maxRecDepth 100000 in
theorem c_L_does_0 (l : Launch) (D : va_G) (cI cC : ClassId) (td : Nat → Option Nat) (a1 : Int32) (w : mvW) : ∀ z, f_L_does_0 a1 w = some z → mv_Ci l D vwCl cI cC tbX td yL_does wsL_does rm_L_does shX w [.inr (.inl 0), .inl a1] z := by
  refine mv_starti (own := RL) rfl (by decide) rfl rfl (L0 := [some (.inr (.inl 0)), some (.inl a1), none, none, none, none, none, none, none, none, none, none, none, none, none, none]) rfl (fun p e s m args below meth c A ad0 hX hr => ?_)
  rw [f_L_does_0]
  refine ev_iload_n hX dL_does_0 rfl ?_
  refine ev_iconst hX dL_does_1 (v := 4) (by decide +kernel) ?_
  refine ev_ishr hX dL_does_2 ?_
  refine ev_bipush hX dL_does_3 (v := 25) (by decide +kernel) ?_
  refine ev_callSi hX (As := [.inl (a1 >>> (4 &&& 31)), .inl 25]) (rm := rm_L_low) (c_L_low l D cI cC td (a1 >>> (4 &&& 31)) 25 w) (cwS 2 hX.ts gL_does_L_low rfl rfl rfl (by decide +kernel) ⟨Nat.le_of_ble_eq_true rfl, Nat.le_of_ble_eq_true rfl⟩) rfl rfl rfl ⟨Nat.le_of_ble_eq_true rfl, Nat.le_of_ble_eq_true rfl⟩ dL_does_5 rfl (fun z1 hz1 => ?_)
  refine ev_istore_n hX dL_does_8 rfl (L' := [some (.inr (.inl 0)), some (.inl a1), some (.inl z1.1), none, none, none, none, none, none, none, none, none, none, none, none, none]) rfl ?_
  refine ev_iload_n hX dL_does_9 rfl ?_
  refine ev_bipush hX dL_does_10 (v := 9) (by decide +kernel) ?_
  refine ev_ishr hX dL_does_12 ?_
  refine ev_bipush hX dL_does_13 (v := 20) (by decide +kernel) ?_
  refine ev_callSi hX (As := [.inl (a1 >>> (9 &&& 31)), .inl 20]) (rm := rm_L_low) (c_L_low l D cI cC td (a1 >>> (9 &&& 31)) 20 z1.2) (cwS 2 hX.ts gL_does_L_low rfl rfl rfl (by decide +kernel) ⟨Nat.le_of_ble_eq_true rfl, Nat.le_of_ble_eq_true rfl⟩) rfl rfl rfl ⟨Nat.le_of_ble_eq_true rfl, Nat.le_of_ble_eq_true rfl⟩ dL_does_15 rfl (fun z2 hz2 => ?_)
  refine ev_istore_n hX dL_does_18 rfl (L' := [some (.inr (.inl 0)), some (.inl a1), some (.inl z1.1), some (.inl z2.1), none, none, none, none, none, none, none, none, none, none, none, none]) rfl ?_
  refine ev_aload_n hX dL_does_19 rfl ?_
  refine ev_iload_n hX dL_does_20 rfl ?_
  refine ev_callVi hX (k0 := 0) (As := [.inl z1.1]) (rm := rm_X4_man) (c_X4_man l D cI cC td z1.1 z2.2) (cwV 1 hX.ts gL_does_X4_man rfl rfl rfl (by decide +kernel) ⟨Nat.le_of_ble_eq_true rfl, Nat.le_of_ble_eq_true rfl⟩) rfl rfl rfl rfl rfl rfl ⟨Nat.le_of_ble_eq_true rfl, Nat.le_of_ble_eq_true rfl⟩ dL_does_21 rfl (fun z3 hz3 => ?_)
  refine ev_istore hX dL_does_24 rfl (L' := [some (.inr (.inl 0)), some (.inl a1), some (.inl z1.1), some (.inl z2.1), some (.inl z3.1), none, none, none, none, none, none, none, none, none, none, none]) rfl ?_
  refine ev_aload_n hX dL_does_26 rfl ?_
  refine ev_iconst hX dL_does_27 (v := 1) (by decide +kernel) ?_
  refine ev_callVi hX (k0 := 0) (As := [.inl 1]) (rm := rm_X4_total) (c_X4_total l D cI cC td 1 z3.2) (cwV 1 hX.ts gL_does_X4_total rfl rfl rfl (by decide +kernel) ⟨Nat.le_of_ble_eq_true rfl, Nat.le_of_ble_eq_true rfl⟩) rfl rfl rfl rfl rfl rfl ⟨Nat.le_of_ble_eq_true rfl, Nat.le_of_ble_eq_true rfl⟩ dL_does_28 rfl (fun z4 hz4 => ?_)
  refine ev_istore hX dL_does_31 rfl (L' := [some (.inr (.inl 0)), some (.inl a1), some (.inl z1.1), some (.inl z2.1), some (.inl z3.1), some (.inl z4.1), none, none, none, none, none, none, none, none, none, none]) rfl ?_
  refine ev_iload_n hX dL_does_33 rfl ?_
  refine ev_bipush hX dL_does_34 (v := 12) (by decide +kernel) ?_
  refine ev_callSi hX (As := [.inl a1, .inl 12]) (rm := rm_L_low) (c_L_low l D cI cC td a1 12 z4.2) (cwS 2 hX.ts gL_does_L_low rfl rfl rfl (by decide +kernel) ⟨Nat.le_of_ble_eq_true rfl, Nat.le_of_ble_eq_true rfl⟩) rfl rfl rfl ⟨Nat.le_of_ble_eq_true rfl, Nat.le_of_ble_eq_true rfl⟩ dL_does_36 rfl (fun z5 hz5 => ?_)
  refine ev_case 0 (fun c_39_0 => ?_) (fun c_39_0 => ?_)
  · refine ev_tsIn (tgt := 68) hX dL_does_39 c_39_0 rfl rfl rfl (by decide) ?_
    refine ev_iload_n hX dL_does_68 rfl ?_
    refine ev_bipush hX dL_does_69 (v := 10) (by decide +kernel) ?_
    refine ev_irem hX dL_does_71 (by decide) ?_
    refine ev_if_ne (tgt := 86) hX dL_does_72 (by decide) ?_ ?_
    · refine ev_iconst hX dL_does_86 (v := (-1)) (by decide +kernel) ?_
      refine ev_mask [true, false, true, true, true, true, false, false, false, false, false, false, false, false, false, false] (L' := [some (.inr (.inl 0)), none, some (.inl z1.1), some (.inl z2.1), some (.inl z3.1), some (.inl z4.1), none, none, none, none, none, none, none, none, none, none]) rfl rfl ?_
      exact e_L_does_0_87 hX hr z1.1 z2.1 z3.1 z4.1 (-1) z5.2
    · refine ev_aload_n hX dL_does_75 rfl ?_
      refine ev_iload_n hX dL_does_76 rfl ?_
      refine ev_bipush hX dL_does_77 (v := 10) (by decide +kernel) ?_
      refine ev_idiv hX dL_does_79 (by decide) ?_
      refine ev_callSi hX (As := [.inr (.inl 0), .inl (z2.1 / 10)]) (rm := rm_L_king) (c_L_king_0 l D cI cC td (z2.1 / 10) z5.2) (cwS 2 hX.ts gL_does_L_king rfl rfl rfl (by decide +kernel) ⟨Nat.le_of_ble_eq_true rfl, Nat.le_of_ble_eq_true rfl⟩) rfl rfl rfl ⟨Nat.le_of_ble_eq_true rfl, Nat.le_of_ble_eq_true rfl⟩ dL_does_80 rfl (fun z6 hz6 => ?_)
      refine ev_goto (tgt := 87) hX dL_does_83 (by decide) ?_
      refine ev_mask [true, false, true, true, true, true, false, false, false, false, false, false, false, false, false, false] (L' := [some (.inr (.inl 0)), none, some (.inl z1.1), some (.inl z2.1), some (.inl z3.1), some (.inl z4.1), none, none, none, none, none, none, none, none, none, none]) rfl rfl ?_
      exact e_L_does_0_87 hX hr z1.1 z2.1 z3.1 z4.1 z6.1 z6.2
  · refine ev_case 1 (fun c_39_1 => ?_) (fun c_39_1 => ?_)
    · refine ev_tsIn (tgt := 147) hX dL_does_39 c_39_1 rfl rfl rfl (by decide) ?_
      refine ev_iload_n hX dL_does_147 rfl ?_
      refine ev_bipush hX dL_does_148 (v := 14) (by decide +kernel) ?_
      refine ev_ishr hX dL_does_150 ?_
      refine ev_iconst hX dL_does_151 (v := 1) (by decide +kernel) ?_
      refine ev_iand hX dL_does_152 ?_
      refine ev_if_eq (tgt := 190) hX dL_does_153 (by decide) ?_ ?_
      · refine ev_iconst hX dL_does_190 (v := 1) (by decide +kernel) ?_
        refine ev_goto (tgt := 195) hX dL_does_191 (by decide) ?_
        exact ev_iretz1 hX hr dL_does_195
      · refine ev_iload hX dL_does_156 rfl ?_
        refine ev_if_lt (tgt := 169) hX dL_does_158 (by decide) ?_ ?_
        · refine ev_mask [true, false, true, false, true, false, false, false, false, false, false, false, false, false, false, false] (L' := [some (.inr (.inl 0)), none, some (.inl z1.1), none, some (.inl z3.1), none, none, none, none, none, none, none, none, none, none, none]) rfl rfl ?_
          exact e_L_does_0_169 hX hr z1.1 z3.1 z5.2
        · refine ev_iload hX dL_does_161 rfl ?_
          refine ev_bipush hX dL_does_163 (v := 10) (by decide +kernel) ?_
          refine ev_irem hX dL_does_165 (by decide) ?_
          refine ev_if_eq (tgt := 190) hX dL_does_166 (by decide) ?_ ?_
          · refine ev_iconst hX dL_does_190 (v := 1) (by decide +kernel) ?_
            refine ev_goto (tgt := 195) hX dL_does_191 (by decide) ?_
            exact ev_iretz1 hX hr dL_does_195
          · refine ev_mask [true, false, true, false, true, false, false, false, false, false, false, false, false, false, false, false] (L' := [some (.inr (.inl 0)), none, some (.inl z1.1), none, some (.inl z3.1), none, none, none, none, none, none, none, none, none, none, none]) rfl rfl ?_
            exact e_L_does_0_169 hX hr z1.1 z3.1 z5.2
    · refine ev_case 2 (fun c_39_2 => ?_) (fun c_39_2 => ?_)
      · refine ev_tsIn (tgt := 196) hX dL_does_39 c_39_2 rfl rfl rfl (by decide) ?_
        refine ev_iconst hX dL_does_196 (v := 1) (by decide +kernel) ?_
        refine ev_iload_n hX dL_does_197 rfl ?_
        refine ev_bipush hX dL_does_198 (v := 9) (by decide +kernel) ?_
        refine ev_ishr hX dL_does_200 ?_
        refine ev_iconst hX dL_does_201 (v := 5) (by decide +kernel) ?_
        refine ev_callSi hX (As := [.inl (a1 >>> (9 &&& 31)), .inl 5]) (rm := rm_L_low) (c_L_low l D cI cC td (a1 >>> (9 &&& 31)) 5 z5.2) (cwS 2 hX.ts gL_does_L_low rfl rfl rfl (by decide +kernel) ⟨Nat.le_of_ble_eq_true rfl, Nat.le_of_ble_eq_true rfl⟩) rfl rfl rfl ⟨Nat.le_of_ble_eq_true rfl, Nat.le_of_ble_eq_true rfl⟩ dL_does_202 rfl (fun z7 hz7 => ?_)
        refine ev_iadd hX dL_does_205 ?_
        refine ev_istore hX dL_does_206 rfl (L' := [some (.inr (.inl 0)), some (.inl a1), some (.inl z1.1), some (.inl z2.1), some (.inl z3.1), some (.inl z4.1), none, some (.inl (1 + z7.1)), none, none, none, none, none, none, none, none]) rfl ?_
        refine ev_iload_n hX dL_does_208 rfl ?_
        refine ev_iconst hX dL_does_209 (v := 4) (by decide +kernel) ?_
        refine ev_ishr hX dL_does_210 ?_
        refine ev_iconst hX dL_does_211 (v := 1) (by decide +kernel) ?_
        refine ev_iand hX dL_does_212 ?_
        refine ev_istore hX dL_does_213 rfl (L' := [some (.inr (.inl 0)), some (.inl a1), some (.inl z1.1), some (.inl z2.1), some (.inl z3.1), some (.inl z4.1), none, some (.inl (1 + z7.1)), some (.inl ((a1 >>> (4 &&& 31)) &&& 1)), none, none, none, none, none, none, none]) rfl ?_
        refine ev_iload_n hX dL_does_215 rfl ?_
        refine ev_bipush hX dL_does_216 (v := 12) (by decide +kernel) ?_
        refine ev_ishr hX dL_does_218 ?_
        refine ev_iconst hX dL_does_219 (v := 5) (by decide +kernel) ?_
        refine ev_callSi hX (As := [.inl (a1 >>> (12 &&& 31)), .inl 5]) (rm := rm_L_low) (c_L_low l D cI cC td (a1 >>> (12 &&& 31)) 5 z7.2) (cwS 2 hX.ts gL_does_L_low rfl rfl rfl (by decide +kernel) ⟨Nat.le_of_ble_eq_true rfl, Nat.le_of_ble_eq_true rfl⟩) rfl rfl rfl ⟨Nat.le_of_ble_eq_true rfl, Nat.le_of_ble_eq_true rfl⟩ dL_does_220 rfl (fun z8 hz8 => ?_)
        refine ev_istore hX dL_does_223 rfl (L' := [some (.inr (.inl 0)), some (.inl a1), some (.inl z1.1), some (.inl z2.1), some (.inl z3.1), some (.inl z4.1), none, some (.inl (1 + z7.1)), some (.inl ((a1 >>> (4 &&& 31)) &&& 1)), some (.inl z8.1), none, none, none, none, none, none]) rfl ?_
        refine ev_aload_n hX dL_does_225 rfl ?_
        refine ev_iload hX dL_does_226 rfl ?_
        refine ev_iload hX dL_does_228 rfl ?_
        refine ev_callVi hX (k0 := 0) (As := [.inl ((a1 >>> (4 &&& 31)) &&& 1), .inl (1 + z7.1)]) (rm := rm_X4_hand) (c_X4_hand l D cI cC td ((a1 >>> (4 &&& 31)) &&& 1) (1 + z7.1) z8.2) (cwV 2 hX.ts gL_does_X4_hand rfl rfl rfl (by decide +kernel) ⟨Nat.le_of_ble_eq_true rfl, Nat.le_of_ble_eq_true rfl⟩) rfl rfl rfl rfl rfl rfl ⟨Nat.le_of_ble_eq_true rfl, Nat.le_of_ble_eq_true rfl⟩ dL_does_230 rfl (fun z9 hz9 => ?_)
        refine ev_istore hX dL_does_233 rfl (L' := [some (.inr (.inl 0)), some (.inl a1), some (.inl z1.1), some (.inl z2.1), some (.inl z3.1), some (.inl z4.1), none, some (.inl (1 + z7.1)), some (.inl ((a1 >>> (4 &&& 31)) &&& 1)), some (.inl z8.1), some (.inl z9.1), none, none, none, none, none]) rfl ?_
        refine ev_aload_n hX dL_does_235 rfl ?_
        refine ev_iload hX dL_does_236 rfl ?_
        refine ev_iload hX dL_does_238 rfl ?_
        refine ev_iload hX dL_does_240 rfl ?_
        refine ev_callVi hX (k0 := 0) (As := [.inl ((a1 >>> (4 &&& 31)) &&& 1), .inl (1 + z7.1), .inl z8.1]) (rm := rm_X4_setHand) (c_X4_setHand l D cI cC td ((a1 >>> (4 &&& 31)) &&& 1) (1 + z7.1) z8.1 z9.2) (cwV 3 hX.ts gL_does_X4_setHand rfl rfl rfl (by decide +kernel) ⟨Nat.le_of_ble_eq_true rfl, Nat.le_of_ble_eq_true rfl⟩) rfl rfl rfl rfl rfl rfl ⟨Nat.le_of_ble_eq_true rfl, Nat.le_of_ble_eq_true rfl⟩ dL_does_242 rfl (fun z10 hz10 => ?_)
        refine ev_iload hX dL_does_245 rfl ?_
        refine ev_iload hX dL_does_247 rfl ?_
        refine ev_icmp_ne (tgt := 258) hX dL_does_249 (by decide) ?_ ?_
        · refine ev_iload hX dL_does_258 rfl ?_
          refine ev_mask [true, false, false, false, false, false, false, true, true, true, false, false, false, false, false, false] (L' := [some (.inr (.inl 0)), none, none, none, none, none, none, some (.inl (1 + z7.1)), some (.inl ((a1 >>> (4 &&& 31)) &&& 1)), some (.inl z8.1), none, none, none, none, none, none]) rfl rfl ?_
          exact e_L_does_0_260 hX hr (1 + z7.1) ((a1 >>> (4 &&& 31)) &&& 1) z8.1 z9.1 z10.1 z10.2
        · refine ev_sipush hX dL_does_252 (v := (-1005)) (by decide +kernel) ?_
          refine ev_goto (tgt := 260) hX dL_does_255 (by decide) ?_
          refine ev_mask [true, false, false, false, false, false, false, true, true, true, false, false, false, false, false, false] (L' := [some (.inr (.inl 0)), none, none, none, none, none, none, some (.inl (1 + z7.1)), some (.inl ((a1 >>> (4 &&& 31)) &&& 1)), some (.inl z8.1), none, none, none, none, none, none]) rfl rfl ?_
          exact e_L_does_0_260 hX hr (1 + z7.1) ((a1 >>> (4 &&& 31)) &&& 1) z8.1 (-1005) z10.1 z10.2
      · refine ev_case 3 (fun c_39_3 => ?_) (fun c_39_3 => ?_)
        · refine ev_tsIn (tgt := 282) hX dL_does_39 c_39_3 rfl rfl rfl (by decide) ?_
          refine ev_iload_n hX dL_does_282 rfl ?_
          refine ev_iconst hX dL_does_283 (v := 4) (by decide +kernel) ?_
          refine ev_ishr hX dL_does_284 ?_
          refine ev_iconst hX dL_does_285 (v := 1) (by decide +kernel) ?_
          refine ev_iand hX dL_does_286 ?_
          refine ev_istore hX dL_does_287 rfl (L' := [some (.inr (.inl 0)), some (.inl a1), some (.inl z1.1), some (.inl z2.1), some (.inl z3.1), some (.inl z4.1), none, none, none, none, none, some (.inl ((a1 >>> (4 &&& 31)) &&& 1)), none, none, none, none]) rfl ?_
          refine ev_iload hX dL_does_289 rfl ?_
          refine ev_aload_n hX dL_does_291 rfl ?_
          refine ev_iconst hX dL_does_292 (v := 0) (by decide +kernel) ?_
          refine ev_callVi hX (k0 := 0) (As := [.inl 0]) (rm := rm_X4_total) (c_X4_total l D cI cC td 0 z5.2) (cwV 1 hX.ts gL_does_X4_total rfl rfl rfl (by decide +kernel) ⟨Nat.le_of_ble_eq_true rfl, Nat.le_of_ble_eq_true rfl⟩) rfl rfl rfl rfl rfl rfl ⟨Nat.le_of_ble_eq_true rfl, Nat.le_of_ble_eq_true rfl⟩ dL_does_293 rfl (fun z11 hz11 => ?_)
          refine ev_icmp_ne (tgt := 305) hX dL_does_296 (by decide) ?_ ?_
          · refine ev_iconst hX dL_does_305 (v := 0) (by decide +kernel) ?_
            refine ev_mask [true, false, false, false, false, false, false, false, false, false, false, true, false, false, false, false] (L' := [some (.inr (.inl 0)), none, none, none, none, none, none, none, none, none, none, some (.inl ((a1 >>> (4 &&& 31)) &&& 1)), none, none, none, none]) rfl rfl ?_
            exact e_L_does_0_306 hX hr ((a1 >>> (4 &&& 31)) &&& 1) 0 z11.2
          · refine ev_sipush hX dL_does_299 (v := (-1005)) (by decide +kernel) ?_
            refine ev_goto (tgt := 306) hX dL_does_302 (by decide) ?_
            refine ev_mask [true, false, false, false, false, false, false, false, false, false, false, true, false, false, false, false] (L' := [some (.inr (.inl 0)), none, none, none, none, none, none, none, none, none, none, some (.inl ((a1 >>> (4 &&& 31)) &&& 1)), none, none, none, none]) rfl rfl ?_
            exact e_L_does_0_306 hX hr ((a1 >>> (4 &&& 31)) &&& 1) (-1005) z11.2
        · refine ev_tsOut (tgt := 363) hX dL_does_39 (mv_swout 0 4 (lt_s (lt_s (lt_s (lt_s lt_0 c_39_0) c_39_1) c_39_2) c_39_3) (by decide) (by decide) (by decide)) (by decide) ?_
          refine ev_aload_n hX dL_does_363 rfl ?_
          refine ev_bipush hX dL_does_364 (v := 7) (by decide +kernel) ?_
          refine ev_callVi hX (k0 := 0) (As := [.inl 7]) (rm := rm_X4_total) (c_X4_total l D cI cC td 7 z5.2) (cwV 1 hX.ts gL_does_X4_total rfl rfl rfl (by decide +kernel) ⟨Nat.le_of_ble_eq_true rfl, Nat.le_of_ble_eq_true rfl⟩) rfl rfl rfl rfl rfl rfl ⟨Nat.le_of_ble_eq_true rfl, Nat.le_of_ble_eq_true rfl⟩ dL_does_366 rfl (fun z12 hz12 => ?_)
          refine ev_istore hX dL_does_369 rfl (L' := [some (.inr (.inl 0)), some (.inl a1), some (.inl z1.1), some (.inl z2.1), some (.inl z3.1), some (.inl z4.1), none, none, none, none, none, none, none, none, some (.inl z12.1), none]) rfl ?_
          refine ev_iload hX dL_does_371 rfl ?_
          refine ev_if_ne (tgt := 380) hX dL_does_373 (by decide) ?_ ?_
          · refine ev_aload_n hX dL_does_380 rfl ?_
            refine ev_iload_n hX dL_does_381 rfl ?_
            refine ev_iconst hX dL_does_382 (v := 4) (by decide +kernel) ?_
            refine ev_ishr hX dL_does_383 ?_
            refine ev_iload hX dL_does_384 rfl ?_
            refine ev_callSi hX (As := [.inl (a1 >>> (4 &&& 31)), .inl z12.1]) (rm := rm_L_low) (c_L_low l D cI cC td (a1 >>> (4 &&& 31)) z12.1 z12.2) (cwS 2 hX.ts gL_does_L_low rfl rfl rfl (by decide +kernel) ⟨Nat.le_of_ble_eq_true rfl, Nat.le_of_ble_eq_true rfl⟩) rfl rfl rfl ⟨Nat.le_of_ble_eq_true rfl, Nat.le_of_ble_eq_true rfl⟩ dL_does_386 rfl (fun z13 hz13 => ?_)
            refine ev_callVi hX (k0 := 0) (As := [.inl z13.1]) (rm := rm_X4_playAt) (c_X4_playAt l D cI cC td z13.1 z13.2) (cwV 1 hX.ts gL_does_X4_playAt rfl rfl rfl (by decide +kernel) ⟨Nat.le_of_ble_eq_true rfl, Nat.le_of_ble_eq_true rfl⟩) rfl rfl rfl rfl rfl rfl ⟨Nat.le_of_ble_eq_true rfl, Nat.le_of_ble_eq_true rfl⟩ dL_does_389 rfl (fun z14 hz14 => ?_)
            refine ev_mask [true, false, false, false, false, false, false, false, false, false, false, false, false, false, true, false] (L' := [some (.inr (.inl 0)), none, none, none, none, none, none, none, none, none, none, none, none, none, some (.inl z12.1), none]) rfl rfl ?_
            exact e_L_does_0_392 hX hr z12.1 z14.1 z14.2
          · refine ev_iconst hX dL_does_376 (v := (-1)) (by decide +kernel) ?_
            refine ev_goto (tgt := 392) hX dL_does_377 (by decide) ?_
            refine ev_mask [true, false, false, false, false, false, false, false, false, false, false, false, false, false, true, false] (L' := [some (.inr (.inl 0)), none, none, none, none, none, none, none, none, none, none, none, none, none, some (.inl z12.1), none]) rfl rfl ?_
            exact e_L_does_0_392 hX hr z12.1 (-1) z12.2
end
