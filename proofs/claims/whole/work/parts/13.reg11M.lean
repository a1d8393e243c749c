set_option maxRecDepth 20000 in
set_option maxHeartbeats 2000000 in
theorem t_M_readLiteral_318 {x1 : Int} {s0 : Int}  {w : Wo} {Q : Option AV → Wo → Prop} (h : MetI m_M_readTerm [vr 78] w (fun z2 w1 => ((¬ z2 = 0 → MetV m_M_lay [vr 78, vi x1, vi 0] w1 (fun w3 => ((s0 = 0 → Wp m_M_readLiteral 503 [(0, vr 78), (1, vi x1)] [] (0, 0) w3 Q) ∧ (¬ s0 = 0 → (0 ≤ (gI w3 78 10) ∧ (gI w3 78 10) < 602) ∧ ((¬ (gI w3 80 (gI w3 78 10).toNat) = 5 → Wp m_M_readLiteral 503 [(0, vr 78), (1, vi x1)] [] (0, 0) w3 Q) ∧ ((gI w3 80 (gI w3 78 10).toNat) = 5 → (0 ≤ (gI w3 78 10) ∧ (gI w3 78 10) < 602) ∧ ((¬ (gI w3 82 (gI w3 78 10).toNat) = 1 → Wp m_M_readLiteral 503 [(0, vr 78), (1, vi x1)] [] (0, 0) w3 Q) ∧ ((gI w3 82 (gI w3 78 10).toNat) = 1 → inr32 ((gI w3 78 10) + 1) ∧ (∀ w6 : Wo, w6 = uI w3 78 10 ((gI w3 78 10) + 1) → (0 ≤ x1 ∧ x1 < 366) ∧ (∀ w9 : Wo, w9 = uI w6 96 x1.toNat 3 → MetI m_M_readTerm [vr 78] w9 (fun z12 w11 => ((¬ z12 = 0 → MetV m_M_lay [vr 78, vi x1, vi 1] w11 (fun w13 => MetI m_M_isSign [vr 78, vi 43] w13 (fun z15 w14 => ((¬ z15 = 0 → Wp m_M_readLiteral 443 [(0, vr 78), (1, vi x1)] [] (0, 0) w14 Q) ∧ (z15 = 0 → MetI m_M_isSign [vr 78, vi 45] w14 (fun z17 w16 => ((¬ z17 = 0 → Wp m_M_readLiteral 443 [(0, vr 78), (1, vi x1)] [] (0, 0) w16 Q) ∧ (z17 = 0 → MetI m_M_isSign [vr 78, vi 42] w16 (fun z19 w18 => ((¬ z19 = 0 → Wp m_M_readLiteral 443 [(0, vr 78), (1, vi x1)] [] (0, 0) w18 Q) ∧ (z19 = 0 → MetI m_M_isSign [vr 78, vi 47] w18 (fun z21 w20 => ((¬ z21 = 0 → Wp m_M_readLiteral 443 [(0, vr 78), (1, vi x1)] [] (0, 0) w20 Q) ∧ (z21 = 0 → MetI m_M_isSign [vr 78, vi 37] w20 (fun z23 w22 => ((z23 = 0 → Wp m_M_readLiteral 448 [(0, vr 78), (1, vi x1)] [vi 0] (0, 0) w22 Q) ∧ (¬ z23 = 0 → Wp m_M_readLiteral 443 [(0, vr 78), (1, vi x1)] [] (0, 0) w22 Q))))))))))))))))) ∧ (z12 = 0 → Q (some (vi 0)) w11))))))))))))) ∧ (z2 = 0 → Q (some (vi 0)) w1)))) : Wp m_M_readLiteral 318 [(0, vr 78), (1, vi x1)] [vi s0] (0, 0) w Q := by
  refine wp_ly (fun hly => ?_)
  refine wp_istore (L' := [(4, vi s0), (0, vr 78), (1, vi x1)]) d_M_readLiteral_318 rfl (by decide) ?_
  refine wp_aload_n d_M_readLiteral_320 (i := 0) rfl 1 rfl ?_
  refine wp_callV (A := []) (S := []) d_M_readLiteral_321 cv_M_readLiteral_240 (ly_o hly (by decide)) rfl (Nat.le_of_ble_eq_true rfl) (by decide) (MetS.mono h (fun r w1 hh => ?_))
  obtain ⟨z2, er, h⟩ := hh
  subst er
  refine wp_ly (fun hly => ?_)
  refine wp_if_ne (tgt := 329) d_M_readLiteral_324 (by decide) (fun hc => ?_) (fun hc => ?_)
  · replace h := h.1 hc
    refine wp_aload_n d_M_readLiteral_329 (i := 0) rfl 1 rfl ?_
    refine wp_iload_n d_M_readLiteral_330 (i := 1) rfl 2 rfl ?_
    refine wp_iconst d_M_readLiteral_331 (by decide) ?_
    refine wp_callV (A := [vi x1, vi 0]) (S := []) d_M_readLiteral_332 cv_M_readLiteral_257 (ly_o hly (by decide)) rfl (Nat.le_of_ble_eq_true rfl) (by decide) (MetS.mono h (fun r w3 hh => ?_))
    obtain ⟨er, h⟩ := hh
    subst er
    refine wp_ly (fun hly => ?_)
    refine wp_iload d_M_readLiteral_335 0 rfl ?_
    refine wp_if_eq (tgt := 503) d_M_readLiteral_337 (by decide) (fun hc => ?_) (fun hc => ?_)
    · replace h := h.1 hc
      exact wp_pick [1, 2] rfl h
    · replace h := h.2 hc
      refine wp_aload_n d_M_readLiteral_340 (i := 0) rfl 1 rfl ?_
      refine wp_getP d_M_readLiteral_341 fl_M_13 cl_9 rfl (ly_o hly (by decide)) (ly_r (v := 80) hly (by decide +kernel)) ?_
      refine wp_aload_n d_M_readLiteral_344 (i := 0) rfl 1 rfl ?_
      refine wp_getI d_M_readLiteral_345 fl_M_180 cl_9 rfl (ly_o hly (by decide)) ?_
      obtain ⟨hi4, h⟩ := h
      refine wp_iaload d_M_readLiteral_348 (ly_a (n := 602) (N := 602) hly (by decide) hi4) ?_
      refine wp_iconst d_M_readLiteral_349 (by decide) ?_
      refine wp_icmp_ne (tgt := 503) d_M_readLiteral_350 (by decide) (fun hc => ?_) (fun hc => ?_)
      · replace h := h.1 hc
        exact wp_pick [1, 2] rfl h
      · replace h := h.2 hc
        refine wp_aload_n d_M_readLiteral_353 (i := 0) rfl 1 rfl ?_
        refine wp_getP d_M_readLiteral_354 fl_M_19 cl_9 rfl (ly_o hly (by decide)) (ly_r (v := 82) hly (by decide +kernel)) ?_
        refine wp_aload_n d_M_readLiteral_357 (i := 0) rfl 1 rfl ?_
        refine wp_getI d_M_readLiteral_358 fl_M_180 cl_9 rfl (ly_o hly (by decide)) ?_
        obtain ⟨hi5, h⟩ := h
        refine wp_iaload d_M_readLiteral_361 (ly_a (n := 602) (N := 602) hly (by decide) hi5) ?_
        refine wp_iconst d_M_readLiteral_362 (by decide) ?_
        refine wp_icmp_ne (tgt := 503) d_M_readLiteral_363 (by decide) (fun hc => ?_) (fun hc => ?_)
        · replace h := h.1 hc
          exact wp_pick [1, 2] rfl h
        · replace h := h.2 hc
          refine wp_aload_n d_M_readLiteral_366 (i := 0) rfl 1 rfl ?_
          refine wp_dup d_M_readLiteral_367 rfl ?_
          refine wp_getI d_M_readLiteral_368 fl_M_180 cl_9 rfl (ly_o hly (by decide)) ?_
          refine wp_iconst d_M_readLiteral_371 (by decide) ?_
          obtain ⟨ho, h⟩ := h
          refine wp_iadd d_M_readLiteral_372 ho ?_
          refine wp_putI d_M_readLiteral_373 fl_M_180 cl_9 ⟨rfl, rfl⟩ (ly_o hly (by decide)) (fun w6 e7 => ?_)
          replace h := h w6 e7
          refine wp_ly (fun hly => ?_)
          refine wp_aload_n d_M_readLiteral_376 (i := 0) rfl 1 rfl ?_
          refine wp_getP d_M_readLiteral_377 fl_M_62 cl_9 rfl (ly_o hly (by decide)) (ly_r (v := 96) hly (by decide +kernel)) ?_
          refine wp_iload_n d_M_readLiteral_380 (i := 1) rfl 2 rfl ?_
          refine wp_iconst d_M_readLiteral_381 (by decide) ?_
          obtain ⟨hi8, h⟩ := h
          refine wp_iastore d_M_readLiteral_382 (ly_a (n := 366) (N := 366) hly (by decide) hi8) (fun w9 e10 => ?_)
          replace h := h w9 e10
          refine wp_ly (fun hly => ?_)
          refine wp_aload_n d_M_readLiteral_383 (i := 0) rfl 1 rfl ?_
          refine wp_callV (A := []) (S := []) d_M_readLiteral_384 cv_M_readLiteral_240 (ly_o hly (by decide)) rfl (Nat.le_of_ble_eq_true rfl) (by decide) (MetS.mono h (fun r w11 hh => ?_))
          obtain ⟨z12, er, h⟩ := hh
          subst er
          refine wp_ly (fun hly => ?_)
          refine wp_if_ne (tgt := 392) d_M_readLiteral_387 (by decide) (fun hc => ?_) (fun hc => ?_)
          · replace h := h.1 hc
            refine wp_aload_n d_M_readLiteral_392 (i := 0) rfl 1 rfl ?_
            refine wp_iload_n d_M_readLiteral_393 (i := 1) rfl 2 rfl ?_
            refine wp_iconst d_M_readLiteral_394 (by decide) ?_
            refine wp_callV (A := [vi x1, vi 1]) (S := []) d_M_readLiteral_395 cv_M_readLiteral_257 (ly_o hly (by decide)) rfl (Nat.le_of_ble_eq_true rfl) (by decide) (MetS.mono h (fun r w13 hh => ?_))
            obtain ⟨er, h⟩ := hh
            subst er
            refine wp_ly (fun hly => ?_)
            refine wp_aload_n d_M_readLiteral_398 (i := 0) rfl 1 rfl ?_
            refine wp_bipush d_M_readLiteral_399 (by decide) (by decide) ?_
            refine wp_callV (A := [vi 43]) (S := []) d_M_readLiteral_401 cv_M_readLiteral_186 (ly_o hly (by decide)) rfl (Nat.le_of_ble_eq_true rfl) (by decide) (MetS.mono h (fun r w14 hh => ?_))
            obtain ⟨z15, er, h⟩ := hh
            subst er
            refine wp_ly (fun hly => ?_)
            refine wp_if_ne (tgt := 443) d_M_readLiteral_404 (by decide) (fun hc => ?_) (fun hc => ?_)
            · replace h := h.1 hc
              exact wp_pick [1, 2] rfl h
            · replace h := h.2 hc
              refine wp_aload_n d_M_readLiteral_407 (i := 0) rfl 1 rfl ?_
              refine wp_bipush d_M_readLiteral_408 (by decide) (by decide) ?_
              refine wp_callV (A := [vi 45]) (S := []) d_M_readLiteral_410 cv_M_readLiteral_186 (ly_o hly (by decide)) rfl (Nat.le_of_ble_eq_true rfl) (by decide) (MetS.mono h (fun r w16 hh => ?_))
              obtain ⟨z17, er, h⟩ := hh
              subst er
              refine wp_ly (fun hly => ?_)
              refine wp_if_ne (tgt := 443) d_M_readLiteral_413 (by decide) (fun hc => ?_) (fun hc => ?_)
              · replace h := h.1 hc
                exact wp_pick [1, 2] rfl h
              · replace h := h.2 hc
                refine wp_aload_n d_M_readLiteral_416 (i := 0) rfl 1 rfl ?_
                refine wp_bipush d_M_readLiteral_417 (by decide) (by decide) ?_
                refine wp_callV (A := [vi 42]) (S := []) d_M_readLiteral_419 cv_M_readLiteral_186 (ly_o hly (by decide)) rfl (Nat.le_of_ble_eq_true rfl) (by decide) (MetS.mono h (fun r w18 hh => ?_))
                obtain ⟨z19, er, h⟩ := hh
                subst er
                refine wp_ly (fun hly => ?_)
                refine wp_if_ne (tgt := 443) d_M_readLiteral_422 (by decide) (fun hc => ?_) (fun hc => ?_)
                · replace h := h.1 hc
                  exact wp_pick [1, 2] rfl h
                · replace h := h.2 hc
                  refine wp_aload_n d_M_readLiteral_425 (i := 0) rfl 1 rfl ?_
                  refine wp_bipush d_M_readLiteral_426 (by decide) (by decide) ?_
                  refine wp_callV (A := [vi 47]) (S := []) d_M_readLiteral_428 cv_M_readLiteral_186 (ly_o hly (by decide)) rfl (Nat.le_of_ble_eq_true rfl) (by decide) (MetS.mono h (fun r w20 hh => ?_))
                  obtain ⟨z21, er, h⟩ := hh
                  subst er
                  refine wp_ly (fun hly => ?_)
                  refine wp_if_ne (tgt := 443) d_M_readLiteral_431 (by decide) (fun hc => ?_) (fun hc => ?_)
                  · replace h := h.1 hc
                    exact wp_pick [1, 2] rfl h
                  · replace h := h.2 hc
                    refine wp_aload_n d_M_readLiteral_434 (i := 0) rfl 1 rfl ?_
                    refine wp_bipush d_M_readLiteral_435 (by decide) (by decide) ?_
                    refine wp_callV (A := [vi 37]) (S := []) d_M_readLiteral_437 cv_M_readLiteral_186 (ly_o hly (by decide)) rfl (Nat.le_of_ble_eq_true rfl) (by decide) (MetS.mono h (fun r w22 hh => ?_))
                    obtain ⟨z23, er, h⟩ := hh
                    subst er
                    refine wp_ly (fun hly => ?_)
                    refine wp_if_eq (tgt := 447) d_M_readLiteral_440 (by decide) (fun hc => ?_) (fun hc => ?_)
                    · replace h := h.1 hc
                      refine wp_iconst d_M_readLiteral_447 (by decide) ?_
                      exact wp_pick [1, 2] rfl h
                    · replace h := h.2 hc
                      exact wp_pick [1, 2] rfl h
          · replace h := h.2 hc
            refine wp_iconst d_M_readLiteral_390 (by decide) ?_
            exact wp_zret d_M_readLiteral_391 rfl (by decide) (by decide) h
  · replace h := h.2 hc
    refine wp_iconst d_M_readLiteral_327 (by decide) ?_
    exact wp_zret d_M_readLiteral_328 rfl (by decide) (by decide) h
set_option maxRecDepth 20000 in
set_option maxHeartbeats 2000000 in
theorem t_M_readLiteral_443 {x1 : Int}  {w : Wo} {Q : Option AV → Wo → Prop} (h : Wp m_M_readLiteral 448 [(0, vr 78), (1, vi x1)] [vi 1] (0, 0) w Q) : Wp m_M_readLiteral 443 [(0, vr 78), (1, vi x1)] [] (0, 0) w Q := by
  refine wp_ly (fun hly => ?_)
  refine wp_iconst d_M_readLiteral_443 (by decide) ?_
  refine wp_goto (tgt := 448) d_M_readLiteral_444 (by decide) ?_
  exact h
set_option maxRecDepth 20000 in
set_option maxHeartbeats 2000000 in
theorem t_M_readLiteral_448 {x1 : Int} {s0 : Int}  {w : Wo} {Q : Option AV → Wo → Prop} (h : ((¬ s0 = 0 → (0 ≤ (gI w 78 10) ∧ (gI w 78 10) < 602) ∧ (0 ≤ x1 ∧ x1 < 366) ∧ (∀ w3 : Wo, w3 = uI w 97 x1.toNat (gI w 82 (gI w 78 10).toNat) → inr32 ((gI w3 78 10) + 1) ∧ (∀ w5 : Wo, w5 = uI w3 78 10 ((gI w3 78 10) + 1) → MetI m_M_readTerm [vr 78] w5 (fun z8 w7 => ((¬ z8 = 0 → MetV m_M_lay [vr 78, vi x1, vi 2] w7 (fun w9 => (0 ≤ (gI w9 78 31) ∧ (gI w9 78 31) < 61) ∧ inr32 ((gI w9 94 (gI w9 78 31).toNat) + 1) ∧ (0 ≤ (gI w9 78 31) ∧ (gI w9 78 31) < 61) ∧ (∀ w12 : Wo, w12 = uI w9 94 (gI w9 78 31).toNat ((gI w9 94 (gI w9 78 31).toNat) + 1) → Q (some (vi 1)) w12))) ∧ (z8 = 0 → Q (some (vi 0)) w7)))))) ∧ (s0 = 0 → MetI m_M_refuse [vr 78] w (fun z15 w14 => (z15 = 0 ∨ z15 = 1) ∧ Q (some (vi z15)) w14)))) : Wp m_M_readLiteral 448 [(0, vr 78), (1, vi x1)] [vi s0] (0, 0) w Q := by
  refine wp_ly (fun hly => ?_)
  refine wp_istore (L' := [(5, vi s0), (0, vr 78), (1, vi x1)]) d_M_readLiteral_448 rfl (by decide) ?_
  refine wp_iload d_M_readLiteral_450 0 rfl ?_
  refine wp_if_ne (tgt := 460) d_M_readLiteral_452 (by decide) (fun hc => ?_) (fun hc => ?_)
  · replace h := h.1 hc
    refine wp_aload_n d_M_readLiteral_460 (i := 0) rfl 1 rfl ?_
    refine wp_getP d_M_readLiteral_461 fl_M_65 cl_9 rfl (ly_o hly (by decide)) (ly_r (v := 97) hly (by decide +kernel)) ?_
    refine wp_iload_n d_M_readLiteral_464 (i := 1) rfl 2 rfl ?_
    refine wp_aload_n d_M_readLiteral_465 (i := 0) rfl 1 rfl ?_
    refine wp_getP d_M_readLiteral_466 fl_M_19 cl_9 rfl (ly_o hly (by decide)) (ly_r (v := 82) hly (by decide +kernel)) ?_
    refine wp_aload_n d_M_readLiteral_469 (i := 0) rfl 1 rfl ?_
    refine wp_getI d_M_readLiteral_470 fl_M_180 cl_9 rfl (ly_o hly (by decide)) ?_
    obtain ⟨hi1, h⟩ := h
    refine wp_iaload d_M_readLiteral_473 (ly_a (n := 602) (N := 602) hly (by decide) hi1) ?_
    obtain ⟨hi2, h⟩ := h
    refine wp_iastore d_M_readLiteral_474 (ly_a (n := 366) (N := 366) hly (by decide) hi2) (fun w3 e4 => ?_)
    replace h := h w3 e4
    refine wp_ly (fun hly => ?_)
    refine wp_aload_n d_M_readLiteral_475 (i := 0) rfl 1 rfl ?_
    refine wp_dup d_M_readLiteral_476 rfl ?_
    refine wp_getI d_M_readLiteral_477 fl_M_180 cl_9 rfl (ly_o hly (by decide)) ?_
    refine wp_iconst d_M_readLiteral_480 (by decide) ?_
    obtain ⟨ho, h⟩ := h
    refine wp_iadd d_M_readLiteral_481 ho ?_
    refine wp_putI d_M_readLiteral_482 fl_M_180 cl_9 ⟨rfl, rfl⟩ (ly_o hly (by decide)) (fun w5 e6 => ?_)
    replace h := h w5 e6
    refine wp_ly (fun hly => ?_)
    refine wp_aload_n d_M_readLiteral_485 (i := 0) rfl 1 rfl ?_
    refine wp_callV (A := []) (S := []) d_M_readLiteral_486 cv_M_readLiteral_240 (ly_o hly (by decide)) rfl (Nat.le_of_ble_eq_true rfl) (by decide) (MetS.mono h (fun r w7 hh => ?_))
    obtain ⟨z8, er, h⟩ := hh
    subst er
    refine wp_ly (fun hly => ?_)
    refine wp_if_ne (tgt := 494) d_M_readLiteral_489 (by decide) (fun hc => ?_) (fun hc => ?_)
    · replace h := h.1 hc
      refine wp_aload_n d_M_readLiteral_494 (i := 0) rfl 1 rfl ?_
      refine wp_iload_n d_M_readLiteral_495 (i := 1) rfl 2 rfl ?_
      refine wp_iconst d_M_readLiteral_496 (by decide) ?_
      refine wp_callV (A := [vi x1, vi 2]) (S := []) d_M_readLiteral_497 cv_M_readLiteral_257 (ly_o hly (by decide)) rfl (Nat.le_of_ble_eq_true rfl) (by decide) (MetS.mono h (fun r w9 hh => ?_))
      obtain ⟨er, h⟩ := hh
      subst er
      refine wp_ly (fun hly => ?_)
      refine wp_goto (tgt := 557) d_M_readLiteral_500 (by decide) ?_
      refine wp_aload_n d_M_readLiteral_557 (i := 0) rfl 1 rfl ?_
      refine wp_getP d_M_readLiteral_558 fl_M_56 cl_9 rfl (ly_o hly (by decide)) (ly_r (v := 94) hly (by decide +kernel)) ?_
      refine wp_aload_n d_M_readLiteral_561 (i := 0) rfl 1 rfl ?_
      refine wp_getI d_M_readLiteral_562 fl_M_196 cl_9 rfl (ly_o hly (by decide)) ?_
      refine wp_dup2 d_M_readLiteral_565 rfl rfl ?_
      obtain ⟨hi10, h⟩ := h
      refine wp_iaload d_M_readLiteral_566 (ly_a (n := 61) (N := 61) hly (by decide) hi10) ?_
      refine wp_iconst d_M_readLiteral_567 (by decide) ?_
      obtain ⟨ho, h⟩ := h
      refine wp_iadd d_M_readLiteral_568 ho ?_
      obtain ⟨hi11, h⟩ := h
      refine wp_iastore d_M_readLiteral_569 (ly_a (n := 61) (N := 61) hly (by decide) hi11) (fun w12 e13 => ?_)
      replace h := h w12 e13
      refine wp_ly (fun hly => ?_)
      refine wp_iconst d_M_readLiteral_570 (by decide) ?_
      exact wp_zret d_M_readLiteral_571 rfl (by decide) (by decide) h
    · replace h := h.2 hc
      refine wp_iconst d_M_readLiteral_492 (by decide) ?_
      exact wp_zret d_M_readLiteral_493 rfl (by decide) (by decide) h
  · replace h := h.2 hc
    refine wp_aload_n d_M_readLiteral_455 (i := 0) rfl 1 rfl ?_
    refine wp_callV (A := []) (S := []) d_M_readLiteral_456 cv_M_readLiteral_192 (ly_o hly (by decide)) rfl (Nat.le_of_ble_eq_true rfl) (by decide) (MetS.mono h (fun r w14 hh => ?_))
    obtain ⟨z15, er, h⟩ := hh
    subst er
    refine wp_ly (fun hly => ?_)
    exact wp_zret d_M_readLiteral_459 rfl (by decide) h.1 h.2
set_option maxRecDepth 20000 in
set_option maxHeartbeats 2000000 in
theorem t_M_readLiteral_503 {x1 : Int}  {w : Wo} {Q : Option AV → Wo → Prop} (h : MetI m_M_relation [vr 78] w (fun z2 w1 => ((¬ z2 = 0 → (0 ≤ x1 ∧ x1 < 366) ∧ (∀ w4 : Wo, w4 = uI w1 96 x1.toNat 2 → MetI m_M_relation [vr 78] w4 (fun z7 w6 => (0 ≤ x1 ∧ x1 < 366) ∧ (∀ w9 : Wo, w9 = uI w6 97 x1.toNat z7 → inr32 ((gI w9 78 10) + 1) ∧ (∀ w11 : Wo, w11 = uI w9 78 10 ((gI w9 78 10) + 1) → MetI m_M_readTerm [vr 78] w11 (fun z14 w13 => ((¬ z14 = 0 → MetV m_M_lay [vr 78, vi x1, vi 1] w13 (fun w15 => (0 ≤ (gI w15 78 31) ∧ (gI w15 78 31) < 61) ∧ inr32 ((gI w15 94 (gI w15 78 31).toNat) + 1) ∧ (0 ≤ (gI w15 78 31) ∧ (gI w15 78 31) < 61) ∧ (∀ w18 : Wo, w18 = uI w15 94 (gI w15 78 31).toNat ((gI w15 94 (gI w15 78 31).toNat) + 1) → Q (some (vi 1)) w18))) ∧ (z14 = 0 → Q (some (vi 0)) w13)))))))) ∧ (z2 = 0 → MetI m_M_refuse [vr 78] w1 (fun z21 w20 => (z21 = 0 ∨ z21 = 1) ∧ Q (some (vi z21)) w20))))) : Wp m_M_readLiteral 503 [(0, vr 78), (1, vi x1)] [] (0, 0) w Q := by
  refine wp_ly (fun hly => ?_)
  refine wp_aload_n d_M_readLiteral_503 (i := 0) rfl 0 rfl ?_
  refine wp_callV (A := []) (S := []) d_M_readLiteral_504 cv_M_readLiteral_260 (ly_o hly (by decide)) rfl (Nat.le_of_ble_eq_true rfl) (by decide) (MetS.mono h (fun r w1 hh => ?_))
  obtain ⟨z2, er, h⟩ := hh
  subst er
  refine wp_ly (fun hly => ?_)
  refine wp_if_ne (tgt := 515) d_M_readLiteral_507 (by decide) (fun hc => ?_) (fun hc => ?_)
  · replace h := h.1 hc
    refine wp_aload_n d_M_readLiteral_515 (i := 0) rfl 0 rfl ?_
    refine wp_getP d_M_readLiteral_516 fl_M_62 cl_9 rfl (ly_o hly (by decide)) (ly_r (v := 96) hly (by decide +kernel)) ?_
    refine wp_iload_n d_M_readLiteral_519 (i := 1) rfl 1 rfl ?_
    refine wp_iconst d_M_readLiteral_520 (by decide) ?_
    obtain ⟨hi3, h⟩ := h
    refine wp_iastore d_M_readLiteral_521 (ly_a (n := 366) (N := 366) hly (by decide) hi3) (fun w4 e5 => ?_)
    replace h := h w4 e5
    refine wp_ly (fun hly => ?_)
    refine wp_aload_n d_M_readLiteral_522 (i := 0) rfl 0 rfl ?_
    refine wp_getP d_M_readLiteral_523 fl_M_65 cl_9 rfl (ly_o hly (by decide)) (ly_r (v := 97) hly (by decide +kernel)) ?_
    refine wp_iload_n d_M_readLiteral_526 (i := 1) rfl 1 rfl ?_
    refine wp_aload_n d_M_readLiteral_527 (i := 0) rfl 0 rfl ?_
    refine wp_callV (A := []) (S := [vi x1, vr 97]) d_M_readLiteral_528 cv_M_readLiteral_260 (ly_o hly (by decide)) rfl (Nat.le_of_ble_eq_true rfl) (by decide) (MetS.mono h (fun r w6 hh => ?_))
    obtain ⟨z7, er, h⟩ := hh
    subst er
    refine wp_ly (fun hly => ?_)
    obtain ⟨hi8, h⟩ := h
    refine wp_iastore d_M_readLiteral_531 (ly_a (n := 366) (N := 366) hly (by decide) hi8) (fun w9 e10 => ?_)
    replace h := h w9 e10
    refine wp_ly (fun hly => ?_)
    refine wp_aload_n d_M_readLiteral_532 (i := 0) rfl 0 rfl ?_
    refine wp_dup d_M_readLiteral_533 rfl ?_
    refine wp_getI d_M_readLiteral_534 fl_M_180 cl_9 rfl (ly_o hly (by decide)) ?_
    refine wp_iconst d_M_readLiteral_537 (by decide) ?_
    obtain ⟨ho, h⟩ := h
    refine wp_iadd d_M_readLiteral_538 ho ?_
    refine wp_putI d_M_readLiteral_539 fl_M_180 cl_9 ⟨rfl, rfl⟩ (ly_o hly (by decide)) (fun w11 e12 => ?_)
    replace h := h w11 e12
    refine wp_ly (fun hly => ?_)
    refine wp_aload_n d_M_readLiteral_542 (i := 0) rfl 0 rfl ?_
    refine wp_callV (A := []) (S := []) d_M_readLiteral_543 cv_M_readLiteral_240 (ly_o hly (by decide)) rfl (Nat.le_of_ble_eq_true rfl) (by decide) (MetS.mono h (fun r w13 hh => ?_))
    obtain ⟨z14, er, h⟩ := hh
    subst er
    refine wp_ly (fun hly => ?_)
    refine wp_if_ne (tgt := 551) d_M_readLiteral_546 (by decide) (fun hc => ?_) (fun hc => ?_)
    · replace h := h.1 hc
      refine wp_aload_n d_M_readLiteral_551 (i := 0) rfl 0 rfl ?_
      refine wp_iload_n d_M_readLiteral_552 (i := 1) rfl 1 rfl ?_
      refine wp_iconst d_M_readLiteral_553 (by decide) ?_
      refine wp_callV (A := [vi x1, vi 1]) (S := []) d_M_readLiteral_554 cv_M_readLiteral_257 (ly_o hly (by decide)) rfl (Nat.le_of_ble_eq_true rfl) (by decide) (MetS.mono h (fun r w15 hh => ?_))
      obtain ⟨er, h⟩ := hh
      subst er
      refine wp_ly (fun hly => ?_)
      refine wp_aload_n d_M_readLiteral_557 (i := 0) rfl 0 rfl ?_
      refine wp_getP d_M_readLiteral_558 fl_M_56 cl_9 rfl (ly_o hly (by decide)) (ly_r (v := 94) hly (by decide +kernel)) ?_
      refine wp_aload_n d_M_readLiteral_561 (i := 0) rfl 0 rfl ?_
      refine wp_getI d_M_readLiteral_562 fl_M_196 cl_9 rfl (ly_o hly (by decide)) ?_
      refine wp_dup2 d_M_readLiteral_565 rfl rfl ?_
      obtain ⟨hi16, h⟩ := h
      refine wp_iaload d_M_readLiteral_566 (ly_a (n := 61) (N := 61) hly (by decide) hi16) ?_
      refine wp_iconst d_M_readLiteral_567 (by decide) ?_
      obtain ⟨ho, h⟩ := h
      refine wp_iadd d_M_readLiteral_568 ho ?_
      obtain ⟨hi17, h⟩ := h
      refine wp_iastore d_M_readLiteral_569 (ly_a (n := 61) (N := 61) hly (by decide) hi17) (fun w18 e19 => ?_)
      replace h := h w18 e19
      refine wp_ly (fun hly => ?_)
      refine wp_iconst d_M_readLiteral_570 (by decide) ?_
      exact wp_zret d_M_readLiteral_571 rfl (by decide) (by decide) h
    · replace h := h.2 hc
      refine wp_iconst d_M_readLiteral_549 (by decide) ?_
      exact wp_zret d_M_readLiteral_550 rfl (by decide) (by decide) h
  · replace h := h.2 hc
    refine wp_aload_n d_M_readLiteral_510 (i := 0) rfl 0 rfl ?_
    refine wp_callV (A := []) (S := []) d_M_readLiteral_511 cv_M_readLiteral_192 (ly_o hly (by decide)) rfl (Nat.le_of_ble_eq_true rfl) (by decide) (MetS.mono h (fun r w20 hh => ?_))
    obtain ⟨z21, er, h⟩ := hh
    subst er
    refine wp_ly (fun hly => ?_)
    exact wp_zret d_M_readLiteral_514 rfl (by decide) h.1 h.2
set_option maxRecDepth 20000 in
set_option maxHeartbeats 2000000 in
theorem t_M_readBody_0   {w : Wo} {Q : Option AV → Wo → Prop} (h : (∀ w1 : Wo, w1 = uI w 78 46 0 → Wp m_M_readBody 5 [(0, vr 78)] [] (0, 0) w1 Q)) : Wp m_M_readBody 0 [(0, vr 78)] [] (0, 0) w Q := by
  refine wp_ly (fun hly => ?_)
  refine wp_aload_n d_M_readBody_0 (i := 0) rfl 0 rfl ?_
  refine wp_iconst d_M_readBody_1 (by decide) ?_
  refine wp_putI d_M_readBody_2 fl_M_250 cl_9 ⟨rfl, rfl⟩ (ly_o hly (by decide)) (fun w1 e2 => ?_)
  replace h := h w1 e2
  refine wp_ly (fun hly => ?_)
  exact h
set_option maxRecDepth 20000 in
set_option maxHeartbeats 2000000 in
theorem t_M_readBody_5   {w : Wo} {Q : Option AV → Wo → Prop} (h : MetI m_M_readLiteral [vr 78] w (fun z2 w1 => ((¬ z2 = 0 → MetI m_M_takes [vr 78, vi 44] w1 (fun z4 w3 => ((¬ z4 = 0 → Wp m_M_readBody 5 [(0, vr 78)] [] (0, 0) w3 Q) ∧ (z4 = 0 → Q (some (vi 1)) w3)))) ∧ (z2 = 0 → Q (some (vi 0)) w1)))) : Wp m_M_readBody 5 [(0, vr 78)] [] (0, 0) w Q := by
  refine wp_ly (fun hly => ?_)
  refine wp_aload_n d_M_readBody_5 (i := 0) rfl 0 rfl ?_
  refine wp_callV (A := []) (S := []) d_M_readBody_6 cv_M_readBody_264 (ly_o hly (by decide)) rfl (Nat.le_of_ble_eq_true rfl) (by decide) (MetS.mono h (fun r w1 hh => ?_))
  obtain ⟨z2, er, h⟩ := hh
  subst er
  refine wp_ly (fun hly => ?_)
  refine wp_if_ne (tgt := 14) d_M_readBody_9 (by decide) (fun hc => ?_) (fun hc => ?_)
  · replace h := h.1 hc
    refine wp_aload_n d_M_readBody_14 (i := 0) rfl 0 rfl ?_
    refine wp_bipush d_M_readBody_15 (by decide) (by decide) ?_
    refine wp_callV (A := [vi 44]) (S := []) d_M_readBody_17 cv_M_readBody_189 (ly_o hly (by decide)) rfl (Nat.le_of_ble_eq_true rfl) (by decide) (MetS.mono h (fun r w3 hh => ?_))
    obtain ⟨z4, er, h⟩ := hh
    subst er
    refine wp_ly (fun hly => ?_)
    refine wp_if_ne (tgt := 5) d_M_readBody_20 (by decide) (fun hc => ?_) (fun hc => ?_)
    · replace h := h.1 hc
      exact h
    · replace h := h.2 hc
      refine wp_iconst d_M_readBody_23 (by decide) ?_
      exact wp_zret d_M_readBody_24 rfl (by decide) (by decide) h
  · replace h := h.2 hc
    refine wp_iconst d_M_readBody_12 (by decide) ?_
    exact wp_zret d_M_readBody_13 rfl (by decide) (by decide) h
set_option maxRecDepth 20000 in
set_option maxHeartbeats 2000000 in
theorem t_M_isBound_0 {x1 : Int} {x2 : Int}  {w : Wo} {Q : Option AV → Wo → Prop} (h : inr32 (4 * x1) ∧ inr32 ((4 * x1) + x2) ∧ (0 ≤ ((4 * x1) + x2) ∧ ((4 * x1) + x2) < 1464) ∧ (((gI w 98 ((4 * x1) + x2).toNat) = 0 → Q (some (vi 1)) w) ∧ (¬ (gI w 98 ((4 * x1) + x2).toNat) = 0 → inr32 (4 * x1) ∧ inr32 ((4 * x1) + x2) ∧ (0 ≤ ((4 * x1) + x2) ∧ ((4 * x1) + x2) < 1464) ∧ ((¬ (gI w 98 ((4 * x1) + x2).toNat) = 1 → Q (some (vi 0)) w) ∧ ((gI w 98 ((4 * x1) + x2).toNat) = 1 → inr32 (4 * x1) ∧ inr32 ((4 * x1) + x2) ∧ (0 ≤ ((4 * x1) + x2) ∧ ((4 * x1) + x2) < 1464) ∧ (0 ≤ (b_l2i (gJ w 99 ((4 * x1) + x2).toNat)) ∧ (b_l2i (gJ w 99 ((4 * x1) + x2).toNat)) < 9) ∧ (((gI w 105 (b_l2i (gJ w 99 ((4 * x1) + x2).toNat)).toNat) = 0 → Q (some (vi 0)) w) ∧ (¬ (gI w 105 (b_l2i (gJ w 99 ((4 * x1) + x2).toNat)).toNat) = 0 → Q (some (vi 1)) w))))))) : Wp m_M_isBound 0 [(0, vr 78), (1, vi x1), (2, vi x2)] [] (0, 0) w Q := by
  refine wp_ly (fun hly => ?_)
  refine wp_aload_n d_M_isBound_0 (i := 0) rfl 0 rfl ?_
  refine wp_getP d_M_isBound_1 fl_M_68 cl_9 rfl (ly_o hly (by decide)) (ly_r (v := 98) hly (by decide +kernel)) ?_
  refine wp_iconst d_M_isBound_4 (by decide) ?_
  refine wp_iload_n d_M_isBound_5 (i := 1) rfl 1 rfl ?_
  obtain ⟨ho, h⟩ := h
  refine wp_imul d_M_isBound_6 ho ?_
  refine wp_iload_n d_M_isBound_7 (i := 2) rfl 2 rfl ?_
  obtain ⟨ho, h⟩ := h
  refine wp_iadd d_M_isBound_8 ho ?_
  obtain ⟨hi1, h⟩ := h
  refine wp_iaload d_M_isBound_9 (ly_a (n := 1464) (N := 1464) hly (by decide) hi1) ?_
  refine wp_if_eq (tgt := 46) d_M_isBound_10 (by decide) (fun hc => ?_) (fun hc => ?_)
  · replace h := h.1 hc
    refine wp_iconst d_M_isBound_46 (by decide) ?_
    refine wp_goto (tgt := 51) d_M_isBound_47 (by decide) ?_
    exact wp_zret d_M_isBound_51 rfl (by decide) (by decide) h
  · replace h := h.2 hc
    refine wp_aload_n d_M_isBound_13 (i := 0) rfl 0 rfl ?_
    refine wp_getP d_M_isBound_14 fl_M_68 cl_9 rfl (ly_o hly (by decide)) (ly_r (v := 98) hly (by decide +kernel)) ?_
    refine wp_iconst d_M_isBound_17 (by decide) ?_
    refine wp_iload_n d_M_isBound_18 (i := 1) rfl 1 rfl ?_
    obtain ⟨ho, h⟩ := h
    refine wp_imul d_M_isBound_19 ho ?_
    refine wp_iload_n d_M_isBound_20 (i := 2) rfl 2 rfl ?_
    obtain ⟨ho, h⟩ := h
    refine wp_iadd d_M_isBound_21 ho ?_
    obtain ⟨hi2, h⟩ := h
    refine wp_iaload d_M_isBound_22 (ly_a (n := 1464) (N := 1464) hly (by decide) hi2) ?_
    refine wp_iconst d_M_isBound_23 (by decide) ?_
    refine wp_icmp_ne (tgt := 50) d_M_isBound_24 (by decide) (fun hc => ?_) (fun hc => ?_)
    · replace h := h.1 hc
      refine wp_iconst d_M_isBound_50 (by decide) ?_
      exact wp_zret d_M_isBound_51 rfl (by decide) (by decide) h
    · replace h := h.2 hc
      refine wp_aload_n d_M_isBound_27 (i := 0) rfl 0 rfl ?_
      refine wp_getP d_M_isBound_28 fl_M_89 cl_9 rfl (ly_o hly (by decide)) (ly_r (v := 105) hly (by decide +kernel)) ?_
      refine wp_aload_n d_M_isBound_31 (i := 0) rfl 0 rfl ?_
      refine wp_getP d_M_isBound_32 fl_M_71 cl_9 rfl (ly_o hly (by decide)) (ly_r (v := 99) hly (by decide +kernel)) ?_
      refine wp_iconst d_M_isBound_35 (by decide) ?_
      refine wp_iload_n d_M_isBound_36 (i := 1) rfl 1 rfl ?_
      obtain ⟨ho, h⟩ := h
      refine wp_imul d_M_isBound_37 ho ?_
      refine wp_iload_n d_M_isBound_38 (i := 2) rfl 2 rfl ?_
      obtain ⟨ho, h⟩ := h
      refine wp_iadd d_M_isBound_39 ho ?_
      obtain ⟨hi3, h⟩ := h
      refine wp_laload d_M_isBound_40 (ly_a (n := 1464) (N := 1464) hly (by decide) hi3) ?_
      refine wp_l2i d_M_isBound_41 ?_
      obtain ⟨hi4, h⟩ := h
      refine wp_zaload d_M_isBound_42 (ly_a (n := 9) (N := 9) hly (by decide) hi4) ?_
      refine wp_if_eq (tgt := 50) d_M_isBound_43 (by decide) (fun hc => ?_) (fun hc => ?_)
      · replace h := h.1 hc
        refine wp_iconst d_M_isBound_50 (by decide) ?_
        exact wp_zret d_M_isBound_51 rfl (by decide) (by decide) h
      · replace h := h.2 hc
        refine wp_iconst d_M_isBound_46 (by decide) ?_
        refine wp_goto (tgt := 51) d_M_isBound_47 (by decide) ?_
        exact wp_zret d_M_isBound_51 rfl (by decide) (by decide) h
set_option maxRecDepth 20000 in
set_option maxHeartbeats 2000000 in
theorem t_M_bind_0 {x1 : Int} {x2 : Int}  {w : Wo} {Q : Option AV → Wo → Prop} (h : inr32 (4 * x1) ∧ inr32 ((4 * x1) + x2) ∧ (0 ≤ ((4 * x1) + x2) ∧ ((4 * x1) + x2) < 1464) ∧ ((¬ (gI w 98 ((4 * x1) + x2).toNat) = 1 → Q none w) ∧ ((gI w 98 ((4 * x1) + x2).toNat) = 1 → inr32 (4 * x1) ∧ inr32 ((4 * x1) + x2) ∧ (0 ≤ ((4 * x1) + x2) ∧ ((4 * x1) + x2) < 1464) ∧ (0 ≤ (b_l2i (gJ w 99 ((4 * x1) + x2).toNat)) ∧ (b_l2i (gJ w 99 ((4 * x1) + x2).toNat)) < 9) ∧ (∀ w4 : Wo, w4 = uI w 105 (b_l2i (gJ w 99 ((4 * x1) + x2).toNat)).toNat 1 → Q none w4)))) : Wp m_M_bind 0 [(0, vr 78), (1, vi x1), (2, vi x2)] [] (0, 0) w Q := by
  refine wp_ly (fun hly => ?_)
  refine wp_aload_n d_M_bind_0 (i := 0) rfl 0 rfl ?_
  refine wp_getP d_M_bind_1 fl_M_68 cl_9 rfl (ly_o hly (by decide)) (ly_r (v := 98) hly (by decide +kernel)) ?_
  refine wp_iconst d_M_bind_4 (by decide) ?_
  refine wp_iload_n d_M_bind_5 (i := 1) rfl 1 rfl ?_
  obtain ⟨ho, h⟩ := h
  refine wp_imul d_M_bind_6 ho ?_
  refine wp_iload_n d_M_bind_7 (i := 2) rfl 2 rfl ?_
  obtain ⟨ho, h⟩ := h
  refine wp_iadd d_M_bind_8 ho ?_
  obtain ⟨hi1, h⟩ := h
  refine wp_iaload d_M_bind_9 (ly_a (n := 1464) (N := 1464) hly (by decide) hi1) ?_
  refine wp_iconst d_M_bind_10 (by decide) ?_
  refine wp_icmp_ne (tgt := 31) d_M_bind_11 (by decide) (fun hc => ?_) (fun hc => ?_)
  · replace h := h.1 hc
    exact wp_vret d_M_bind_31 rfl (by decide) h
  · replace h := h.2 hc
    refine wp_aload_n d_M_bind_14 (i := 0) rfl 0 rfl ?_
    refine wp_getP d_M_bind_15 fl_M_89 cl_9 rfl (ly_o hly (by decide)) (ly_r (v := 105) hly (by decide +kernel)) ?_
    refine wp_aload_n d_M_bind_18 (i := 0) rfl 0 rfl ?_
    refine wp_getP d_M_bind_19 fl_M_71 cl_9 rfl (ly_o hly (by decide)) (ly_r (v := 99) hly (by decide +kernel)) ?_
    refine wp_iconst d_M_bind_22 (by decide) ?_
    refine wp_iload_n d_M_bind_23 (i := 1) rfl 1 rfl ?_
    obtain ⟨ho, h⟩ := h
    refine wp_imul d_M_bind_24 ho ?_
    refine wp_iload_n d_M_bind_25 (i := 2) rfl 2 rfl ?_
    obtain ⟨ho, h⟩ := h
    refine wp_iadd d_M_bind_26 ho ?_
    obtain ⟨hi2, h⟩ := h
    refine wp_laload d_M_bind_27 (ly_a (n := 1464) (N := 1464) hly (by decide) hi2) ?_
    refine wp_l2i d_M_bind_28 ?_
    refine wp_iconst d_M_bind_29 (by decide) ?_
    obtain ⟨hi3, h⟩ := h
    refine wp_zastore d_M_bind_30 (ly_a (n := 9) (N := 9) hly (by decide) hi3) (by decide) (fun w4 e5 => ?_)
    replace h := h w4 e5
    refine wp_ly (fun hly => ?_)
    exact wp_vret d_M_bind_31 rfl (by decide) h
set_option maxRecDepth 20000 in
set_option maxHeartbeats 2000000 in
theorem t_M_lookBound_0   {w : Wo} {Q : Option AV → Wo → Prop} (h : Wp m_M_lookBound 2 [(0, vr 78), (1, vi 0)] [] (0, 0) w Q) : Wp m_M_lookBound 0 [(0, vr 78)] [] (0, 0) w Q := by
  refine wp_ly (fun hly => ?_)
  refine wp_iconst d_M_lookBound_0 (by decide) ?_
  refine wp_istore_n (L' := [(1, vi 0), (0, vr 78)]) d_M_lookBound_1 (i := 1) rfl rfl (by decide) ?_
  exact wp_pick [1, 0] rfl h
set_option maxRecDepth 20000 in
set_option maxHeartbeats 2000000 in
theorem t_M_lookBound_2 {x1 : Int}  {w : Wo} {Q : Option AV → Wo → Prop} (h : ((9 ≤ x1 → inr32 (6 * (gI w 78 31)) ∧ (0 ≤ (gI w 78 31) ∧ (gI w 78 31) < 61) ∧ inr32 ((6 * (gI w 78 31)) + (gI w 94 (gI w 78 31).toNat)) ∧ Wp m_M_lookBound 43 [(0, vr 78), (1, vi (6 * (gI w 78 31))), (2, vi ((6 * (gI w 78 31)) + (gI w 94 (gI w 78 31).toNat))), (3, vi (6 * (gI w 78 31)))] [] (0, 0) w Q) ∧ (¬ 9 ≤ x1 → (0 ≤ x1 ∧ x1 < 9) ∧ (∀ w3 : Wo, w3 = uI w 105 x1.toNat 0 → inr32 (x1 + 1) ∧ Wp m_M_lookBound 2 [(0, vr 78), (1, vi (x1 + 1))] [] (0, 0) w3 Q)))) : Wp m_M_lookBound 2 [(0, vr 78), (1, vi x1)] [] (0, 0) w Q := by
  refine wp_ly (fun hly => ?_)
  refine wp_iload_n d_M_lookBound_2 (i := 1) rfl 1 rfl ?_
  refine wp_bipush d_M_lookBound_3 (by decide) (by decide) ?_
  refine wp_icmp_ge (tgt := 21) d_M_lookBound_5 (by decide) (fun hc => ?_) (fun hc => ?_)
  · replace h := h.1 hc
    refine wp_bipush d_M_lookBound_21 (by decide) (by decide) ?_
    refine wp_aload_n d_M_lookBound_23 (i := 0) rfl 0 rfl ?_
    refine wp_getI d_M_lookBound_24 fl_M_196 cl_9 rfl (ly_o hly (by decide)) ?_
    obtain ⟨ho, h⟩ := h
    refine wp_imul d_M_lookBound_27 ho ?_
    refine wp_istore_n (L' := [(1, vi (6 * (gI w 78 31))), (0, vr 78)]) d_M_lookBound_28 (i := 1) rfl rfl (by decide) ?_
    refine wp_iload_n d_M_lookBound_29 (i := 1) rfl 0 rfl ?_
    refine wp_aload_n d_M_lookBound_30 (i := 0) rfl 1 rfl ?_
    refine wp_getP d_M_lookBound_31 fl_M_56 cl_9 rfl (ly_o hly (by decide)) (ly_r (v := 94) hly (by decide +kernel)) ?_
    refine wp_aload_n d_M_lookBound_34 (i := 0) rfl 1 rfl ?_
    refine wp_getI d_M_lookBound_35 fl_M_196 cl_9 rfl (ly_o hly (by decide)) ?_
    obtain ⟨hi1, h⟩ := h
    refine wp_iaload d_M_lookBound_38 (ly_a (n := 61) (N := 61) hly (by decide) hi1) ?_
    obtain ⟨ho, h⟩ := h
    refine wp_iadd d_M_lookBound_39 ho ?_
    refine wp_istore_n (L' := [(2, vi ((6 * (gI w 78 31)) + (gI w 94 (gI w 78 31).toNat))), (1, vi (6 * (gI w 78 31))), (0, vr 78)]) d_M_lookBound_40 (i := 2) rfl rfl (by decide) ?_
    refine wp_iload_n d_M_lookBound_41 (i := 1) rfl 1 rfl ?_
    refine wp_istore_n (L' := [(3, vi (6 * (gI w 78 31))), (2, vi ((6 * (gI w 78 31)) + (gI w 94 (gI w 78 31).toNat))), (1, vi (6 * (gI w 78 31))), (0, vr 78)]) d_M_lookBound_42 (i := 3) rfl rfl (by decide) ?_
    exact wp_pick [3, 2, 1, 0] rfl h
  · replace h := h.2 hc
    refine wp_aload_n d_M_lookBound_8 (i := 0) rfl 0 rfl ?_
    refine wp_getP d_M_lookBound_9 fl_M_89 cl_9 rfl (ly_o hly (by decide)) (ly_r (v := 105) hly (by decide +kernel)) ?_
    refine wp_iload_n d_M_lookBound_12 (i := 1) rfl 1 rfl ?_
    refine wp_iconst d_M_lookBound_13 (by decide) ?_
    obtain ⟨hi2, h⟩ := h
    refine wp_zastore d_M_lookBound_14 (ly_a (n := 9) (N := 9) hly (by decide) hi2) (by decide) (fun w3 e4 => ?_)
    replace h := h w3 e4
    refine wp_ly (fun hly => ?_)
    obtain ⟨ho, h⟩ := h
    refine wp_iinc (L' := [(1, vi (x1 + 1)), (0, vr 78)]) d_M_lookBound_15 1 rfl rfl (by decide) ho ?_
    refine wp_goto (tgt := 2) d_M_lookBound_18 (by decide) ?_
    exact wp_pick [1, 0] rfl h
set_option maxRecDepth 20000 in
set_option maxHeartbeats 2000000 in
theorem t_M_lookBound_43 {x1 : Int} {x2 : Int} {x3 : Int}  {w : Wo} {Q : Option AV → Wo → Prop} (h : ((x2 ≤ x3 → Wp m_M_lookBound 91 [(0, vr 78), (1, vi x1), (2, vi x2), (3, vi 1)] [] (0, 0) w Q) ∧ (¬ x2 ≤ x3 → (0 ≤ x3 ∧ x3 < 366) ∧ ((¬ (gI w 96 x3.toNat) = 0 → inr32 (x3 + 1) ∧ Wp m_M_lookBound 43 [(0, vr 78), (1, vi x1), (2, vi x2), (3, vi (x3 + 1))] [] (0, 0) w Q) ∧ ((gI w 96 x3.toNat) = 0 → Wp m_M_lookBound 60 [(0, vr 78), (1, vi x1), (2, vi x2), (3, vi x3), (4, vi 0)] [] (0, 0) w Q))))) : Wp m_M_lookBound 43 [(0, vr 78), (1, vi x1), (2, vi x2), (3, vi x3)] [] (0, 0) w Q := by
  refine wp_ly (fun hly => ?_)
  refine wp_iload_n d_M_lookBound_43 (i := 3) rfl 3 rfl ?_
  refine wp_iload_n d_M_lookBound_44 (i := 2) rfl 2 rfl ?_
  refine wp_icmp_ge (tgt := 89) d_M_lookBound_45 (by decide) (fun hc => ?_) (fun hc => ?_)
  · replace h := h.1 hc
    refine wp_iconst d_M_lookBound_89 (by decide) ?_
    refine wp_istore_n (L' := [(3, vi 1), (0, vr 78), (1, vi x1), (2, vi x2)]) d_M_lookBound_90 (i := 3) rfl rfl (by decide) ?_
    exact wp_pick [1, 2, 3, 0] rfl h
  · replace h := h.2 hc
    refine wp_aload_n d_M_lookBound_48 (i := 0) rfl 0 rfl ?_
    refine wp_getP d_M_lookBound_49 fl_M_62 cl_9 rfl (ly_o hly (by decide)) (ly_r (v := 96) hly (by decide +kernel)) ?_
    refine wp_iload_n d_M_lookBound_52 (i := 3) rfl 3 rfl ?_
    obtain ⟨hi1, h⟩ := h
    refine wp_iaload d_M_lookBound_53 (ly_a (n := 366) (N := 366) hly (by decide) hi1) ?_
    refine wp_if_ne (tgt := 83) d_M_lookBound_54 (by decide) (fun hc => ?_) (fun hc => ?_)
    · replace h := h.1 hc
      obtain ⟨ho, h⟩ := h
      refine wp_iinc (L' := [(3, vi (x3 + 1)), (0, vr 78), (1, vi x1), (2, vi x2)]) d_M_lookBound_83 3 rfl rfl (by decide) ho ?_
      refine wp_goto (tgt := 43) d_M_lookBound_86 (by decide) ?_
      exact wp_pick [1, 2, 3, 0] rfl h
    · replace h := h.2 hc
      refine wp_iconst d_M_lookBound_57 (by decide) ?_
      refine wp_istore (L' := [(4, vi 0), (0, vr 78), (1, vi x1), (2, vi x2), (3, vi x3)]) d_M_lookBound_58 rfl (by decide) ?_
      exact wp_pick [1, 2, 3, 4, 0] rfl h
set_option maxRecDepth 20000 in
set_option maxHeartbeats 2000000 in
theorem t_M_lookBound_60 {x1 : Int} {x2 : Int} {x3 : Int} {x4 : Int}  {w : Wo} {Q : Option AV → Wo → Prop} (h : MetI m_M_predicateSizeOf [vr 78, vi x3] w (fun z2 w1 => ((z2 ≤ x4 → inr32 (x3 + 1) ∧ Wp m_M_lookBound 43 [(0, vr 78), (1, vi x1), (2, vi x2), (3, vi (x3 + 1))] [] (0, 0) w1 Q) ∧ (¬ z2 ≤ x4 → MetV m_M_bind [vr 78, vi x3, vi x4] w1 (fun w3 => inr32 (x4 + 1) ∧ Wp m_M_lookBound 60 [(0, vr 78), (1, vi x1), (2, vi x2), (3, vi x3), (4, vi (x4 + 1))] [] (0, 0) w3 Q))))) : Wp m_M_lookBound 60 [(0, vr 78), (1, vi x1), (2, vi x2), (3, vi x3), (4, vi x4)] [] (0, 0) w Q := by
  refine wp_ly (fun hly => ?_)
  refine wp_iload d_M_lookBound_60 4 rfl ?_
  refine wp_aload_n d_M_lookBound_62 (i := 0) rfl 0 rfl ?_
  refine wp_iload_n d_M_lookBound_63 (i := 3) rfl 3 rfl ?_
  refine wp_callV (A := [vi x3]) (S := [vi x4]) d_M_lookBound_64 cv_M_lookBound_267 (ly_o hly (by decide)) rfl (Nat.le_of_ble_eq_true rfl) (by decide) (MetS.mono h (fun r w1 hh => ?_))
  obtain ⟨z2, er, h⟩ := hh
  subst er
  refine wp_ly (fun hly => ?_)
  refine wp_icmp_ge (tgt := 83) d_M_lookBound_67 (by decide) (fun hc => ?_) (fun hc => ?_)
  · replace h := h.1 hc
    obtain ⟨ho, h⟩ := h
    refine wp_iinc (L' := [(3, vi (x3 + 1)), (0, vr 78), (1, vi x1), (2, vi x2), (4, vi x4)]) d_M_lookBound_83 3 rfl rfl (by decide) ho ?_
    refine wp_goto (tgt := 43) d_M_lookBound_86 (by decide) ?_
    exact wp_pick [1, 2, 3, 0] rfl h
  · replace h := h.2 hc
    refine wp_aload_n d_M_lookBound_70 (i := 0) rfl 0 rfl ?_
    refine wp_iload_n d_M_lookBound_71 (i := 3) rfl 3 rfl ?_
    refine wp_iload d_M_lookBound_72 4 rfl ?_
    refine wp_callV (A := [vi x3, vi x4]) (S := []) d_M_lookBound_74 cv_M_lookBound_270 (ly_o hly (by decide)) rfl (Nat.le_of_ble_eq_true rfl) (by decide) (MetS.mono h (fun r w3 hh => ?_))
    obtain ⟨er, h⟩ := hh
    subst er
    refine wp_ly (fun hly => ?_)
    obtain ⟨ho, h⟩ := h
    refine wp_iinc (L' := [(4, vi (x4 + 1)), (0, vr 78), (1, vi x1), (2, vi x2), (3, vi x3)]) d_M_lookBound_77 4 rfl rfl (by decide) ho ?_
    refine wp_goto (tgt := 60) d_M_lookBound_80 (by decide) ?_
    exact wp_pick [1, 2, 3, 4, 0] rfl h
set_option maxRecDepth 20000 in
set_option maxHeartbeats 2000000 in
theorem t_M_lookBound_91 {x1 : Int} {x2 : Int} {x3 : Int}  {w : Wo} {Q : Option AV → Wo → Prop} (h : ((x3 = 0 → Wp m_M_lookBound 224 [(0, vr 78), (4, vi 0)] [] (0, 0) w Q) ∧ (¬ x3 = 0 → Wp m_M_lookBound 100 [(0, vr 78), (1, vi x1), (2, vi x2), (3, vi 0), (4, vi x1)] [] (0, 0) w Q))) : Wp m_M_lookBound 91 [(0, vr 78), (1, vi x1), (2, vi x2), (3, vi x3)] [] (0, 0) w Q := by
  refine wp_ly (fun hly => ?_)
  refine wp_iload_n d_M_lookBound_91 (i := 3) rfl 3 rfl ?_
  refine wp_if_eq (tgt := 221) d_M_lookBound_92 (by decide) (fun hc => ?_) (fun hc => ?_)
  · replace h := h.1 hc
    refine wp_iconst d_M_lookBound_221 (by decide) ?_
    refine wp_istore (L' := [(4, vi 0), (0, vr 78), (1, vi x1), (2, vi x2), (3, vi x3)]) d_M_lookBound_222 rfl (by decide) ?_
    exact wp_pick [1, 0] rfl h
  · replace h := h.2 hc
    refine wp_iconst d_M_lookBound_95 (by decide) ?_
    refine wp_istore_n (L' := [(3, vi 0), (0, vr 78), (1, vi x1), (2, vi x2)]) d_M_lookBound_96 (i := 3) rfl rfl (by decide) ?_
    refine wp_iload_n d_M_lookBound_97 (i := 1) rfl 2 rfl ?_
    refine wp_istore (L' := [(4, vi x1), (3, vi 0), (0, vr 78), (1, vi x1), (2, vi x2)]) d_M_lookBound_98 rfl (by decide) ?_
    exact wp_pick [2, 3, 4, 1, 0] rfl h
set_option maxRecDepth 20000 in
set_option maxHeartbeats 2000000 in
theorem t_M_lookBound_100 {x1 : Int} {x2 : Int} {x3 : Int} {x4 : Int}  {w : Wo} {Q : Option AV → Wo → Prop} (h : ((x2 ≤ x4 → Wp m_M_lookBound 91 [(0, vr 78), (1, vi x1), (2, vi x2), (3, vi x3)] [] (0, 0) w Q) ∧ (¬ x2 ≤ x4 → (0 ≤ x4 ∧ x4 < 366) ∧ ((¬ (gI w 96 x4.toNat) = 3 → Wp m_M_lookBound 156 [(0, vr 78), (1, vi x1), (2, vi x2), (3, vi x3), (4, vi x4)] [] (0, 0) w Q) ∧ ((gI w 96 x4.toNat) = 3 → MetI m_M_isBound [vr 78, vi x4, vi 0] w (fun z3 w2 => ((¬ z3 = 0 → Wp m_M_lookBound 156 [(0, vr 78), (1, vi x1), (2, vi x2), (3, vi x3), (4, vi x4)] [] (0, 0) w2 Q) ∧ (z3 = 0 → MetI m_M_isBound [vr 78, vi x4, vi 1] w2 (fun z5 w4 => ((z5 = 0 → Wp m_M_lookBound 156 [(0, vr 78), (1, vi x1), (2, vi x2), (3, vi x3), (4, vi x4)] [] (0, 0) w4 Q) ∧ (¬ z5 = 0 → MetI m_M_isBound [vr 78, vi x4, vi 2] w4 (fun z7 w6 => ((z7 = 0 → Wp m_M_lookBound 156 [(0, vr 78), (1, vi x1), (2, vi x2), (3, vi x3), (4, vi x4)] [] (0, 0) w6 Q) ∧ (¬ z7 = 0 → MetV m_M_bind [vr 78, vi x4, vi 0] w6 (fun w8 => Wp m_M_lookBound 156 [(0, vr 78), (1, vi x1), (2, vi x2), (3, vi 1), (4, vi x4)] [] (0, 0) w8 Q))))))))))))))) : Wp m_M_lookBound 100 [(0, vr 78), (1, vi x1), (2, vi x2), (3, vi x3), (4, vi x4)] [] (0, 0) w Q := by
  refine wp_ly (fun hly => ?_)
  refine wp_iload d_M_lookBound_100 4 rfl ?_
  refine wp_iload_n d_M_lookBound_102 (i := 2) rfl 2 rfl ?_
  refine wp_icmp_ge (tgt := 218) d_M_lookBound_103 (by decide) (fun hc => ?_) (fun hc => ?_)
  · replace h := h.1 hc
    refine wp_goto (tgt := 91) d_M_lookBound_218 (by decide) ?_
    exact wp_pick [0, 1, 2, 3] rfl h
  · replace h := h.2 hc
    refine wp_aload_n d_M_lookBound_106 (i := 0) rfl 0 rfl ?_
    refine wp_getP d_M_lookBound_107 fl_M_62 cl_9 rfl (ly_o hly (by decide)) (ly_r (v := 96) hly (by decide +kernel)) ?_
    refine wp_iload d_M_lookBound_110 4 rfl ?_
    obtain ⟨hi1, h⟩ := h
    refine wp_iaload d_M_lookBound_112 (ly_a (n := 366) (N := 366) hly (by decide) hi1) ?_
    refine wp_iconst d_M_lookBound_113 (by decide) ?_
    refine wp_icmp_ne (tgt := 156) d_M_lookBound_114 (by decide) (fun hc => ?_) (fun hc => ?_)
    · replace h := h.1 hc
      exact h
    · replace h := h.2 hc
      refine wp_aload_n d_M_lookBound_117 (i := 0) rfl 0 rfl ?_
      refine wp_iload d_M_lookBound_118 4 rfl ?_
      refine wp_iconst d_M_lookBound_120 (by decide) ?_
      refine wp_callV (A := [vi x4, vi 0]) (S := []) d_M_lookBound_121 cv_M_lookBound_273 (ly_o hly (by decide)) rfl (Nat.le_of_ble_eq_true rfl) (by decide) (MetS.mono h (fun r w2 hh => ?_))
      obtain ⟨z3, er, h⟩ := hh
      subst er
      refine wp_ly (fun hly => ?_)
      refine wp_if_ne (tgt := 156) d_M_lookBound_124 (by decide) (fun hc => ?_) (fun hc => ?_)
      · replace h := h.1 hc
        exact h
      · replace h := h.2 hc
        refine wp_aload_n d_M_lookBound_127 (i := 0) rfl 0 rfl ?_
        refine wp_iload d_M_lookBound_128 4 rfl ?_
        refine wp_iconst d_M_lookBound_130 (by decide) ?_
        refine wp_callV (A := [vi x4, vi 1]) (S := []) d_M_lookBound_131 cv_M_lookBound_273 (ly_o hly (by decide)) rfl (Nat.le_of_ble_eq_true rfl) (by decide) (MetS.mono h (fun r w4 hh => ?_))
        obtain ⟨z5, er, h⟩ := hh
        subst er
        refine wp_ly (fun hly => ?_)
        refine wp_if_eq (tgt := 156) d_M_lookBound_134 (by decide) (fun hc => ?_) (fun hc => ?_)
        · replace h := h.1 hc
          exact h
        · replace h := h.2 hc
          refine wp_aload_n d_M_lookBound_137 (i := 0) rfl 0 rfl ?_
          refine wp_iload d_M_lookBound_138 4 rfl ?_
          refine wp_iconst d_M_lookBound_140 (by decide) ?_
          refine wp_callV (A := [vi x4, vi 2]) (S := []) d_M_lookBound_141 cv_M_lookBound_273 (ly_o hly (by decide)) rfl (Nat.le_of_ble_eq_true rfl) (by decide) (MetS.mono h (fun r w6 hh => ?_))
          obtain ⟨z7, er, h⟩ := hh
          subst er
          refine wp_ly (fun hly => ?_)
          refine wp_if_eq (tgt := 156) d_M_lookBound_144 (by decide) (fun hc => ?_) (fun hc => ?_)
          · replace h := h.1 hc
            exact h
          · replace h := h.2 hc
            refine wp_aload_n d_M_lookBound_147 (i := 0) rfl 0 rfl ?_
            refine wp_iload d_M_lookBound_148 4 rfl ?_
            refine wp_iconst d_M_lookBound_150 (by decide) ?_
            refine wp_callV (A := [vi x4, vi 0]) (S := []) d_M_lookBound_151 cv_M_lookBound_270 (ly_o hly (by decide)) rfl (Nat.le_of_ble_eq_true rfl) (by decide) (MetS.mono h (fun r w8 hh => ?_))
            obtain ⟨er, h⟩ := hh
            subst er
            refine wp_ly (fun hly => ?_)
            refine wp_iconst d_M_lookBound_154 (by decide) ?_
            refine wp_istore_n (L' := [(3, vi 1), (0, vr 78), (1, vi x1), (2, vi x2), (4, vi x4)]) d_M_lookBound_155 (i := 3) rfl rfl (by decide) ?_
            exact wp_pick [1, 2, 3, 0, 4] rfl h
set_option maxRecDepth 20000 in
set_option maxHeartbeats 2000000 in
theorem t_M_lookBound_156 {x1 : Int} {x2 : Int} {x3 : Int} {x4 : Int}  {w : Wo} {Q : Option AV → Wo → Prop} (h : (0 ≤ x4 ∧ x4 < 366) ∧ ((¬ (gI w 96 x4.toNat) = 2 → inr32 (x4 + 1) ∧ Wp m_M_lookBound 100 [(0, vr 78), (1, vi x1), (2, vi x2), (3, vi x3), (4, vi (x4 + 1))] [] (0, 0) w Q) ∧ ((gI w 96 x4.toNat) = 2 → (0 ≤ x4 ∧ x4 < 366) ∧ ((¬ (gI w 97 x4.toNat) = 61 → inr32 (x4 + 1) ∧ Wp m_M_lookBound 100 [(0, vr 78), (1, vi x1), (2, vi x2), (3, vi x3), (4, vi (x4 + 1))] [] (0, 0) w Q) ∧ ((gI w 97 x4.toNat) = 61 → MetI m_M_isBound [vr 78, vi x4, vi 0] w (fun z4 w3 => MetI m_M_isBound [vr 78, vi x4, vi 1] w3 (fun z6 w5 => ((z4 = z6 → inr32 (x4 + 1) ∧ Wp m_M_lookBound 100 [(0, vr 78), (1, vi x1), (2, vi x2), (3, vi x3), (4, vi (x4 + 1))] [] (0, 0) w5 Q) ∧ (¬ z4 = z6 → MetV m_M_bind [vr 78, vi x4, vi 0] w5 (fun w7 => MetV m_M_bind [vr 78, vi x4, vi 1] w7 (fun w8 => inr32 (x4 + 1) ∧ Wp m_M_lookBound 100 [(0, vr 78), (1, vi x1), (2, vi x2), (3, vi 1), (4, vi (x4 + 1))] [] (0, 0) w8 Q))))))))))) : Wp m_M_lookBound 156 [(0, vr 78), (1, vi x1), (2, vi x2), (3, vi x3), (4, vi x4)] [] (0, 0) w Q := by
  refine wp_ly (fun hly => ?_)
  refine wp_aload_n d_M_lookBound_156 (i := 0) rfl 0 rfl ?_
  refine wp_getP d_M_lookBound_157 fl_M_62 cl_9 rfl (ly_o hly (by decide)) (ly_r (v := 96) hly (by decide +kernel)) ?_
  refine wp_iload d_M_lookBound_160 4 rfl ?_
  obtain ⟨hi1, h⟩ := h
  refine wp_iaload d_M_lookBound_162 (ly_a (n := 366) (N := 366) hly (by decide) hi1) ?_
  refine wp_iconst d_M_lookBound_163 (by decide) ?_
  refine wp_icmp_ne (tgt := 212) d_M_lookBound_164 (by decide) (fun hc => ?_) (fun hc => ?_)
  · replace h := h.1 hc
    obtain ⟨ho, h⟩ := h
    refine wp_iinc (L' := [(4, vi (x4 + 1)), (0, vr 78), (1, vi x1), (2, vi x2), (3, vi x3)]) d_M_lookBound_212 4 rfl rfl (by decide) ho ?_
    refine wp_goto (tgt := 100) d_M_lookBound_215 (by decide) ?_
    exact wp_pick [1, 2, 3, 4, 0] rfl h
  · replace h := h.2 hc
    refine wp_aload_n d_M_lookBound_167 (i := 0) rfl 0 rfl ?_
    refine wp_getP d_M_lookBound_168 fl_M_65 cl_9 rfl (ly_o hly (by decide)) (ly_r (v := 97) hly (by decide +kernel)) ?_
    refine wp_iload d_M_lookBound_171 4 rfl ?_
    obtain ⟨hi2, h⟩ := h
    refine wp_iaload d_M_lookBound_173 (ly_a (n := 366) (N := 366) hly (by decide) hi2) ?_
    refine wp_bipush d_M_lookBound_174 (by decide) (by decide) ?_
    refine wp_icmp_ne (tgt := 212) d_M_lookBound_176 (by decide) (fun hc => ?_) (fun hc => ?_)
    · replace h := h.1 hc
      obtain ⟨ho, h⟩ := h
      refine wp_iinc (L' := [(4, vi (x4 + 1)), (0, vr 78), (1, vi x1), (2, vi x2), (3, vi x3)]) d_M_lookBound_212 4 rfl rfl (by decide) ho ?_
      refine wp_goto (tgt := 100) d_M_lookBound_215 (by decide) ?_
      exact wp_pick [1, 2, 3, 4, 0] rfl h
    · replace h := h.2 hc
      refine wp_aload_n d_M_lookBound_179 (i := 0) rfl 0 rfl ?_
      refine wp_iload d_M_lookBound_180 4 rfl ?_
      refine wp_iconst d_M_lookBound_182 (by decide) ?_
      refine wp_callV (A := [vi x4, vi 0]) (S := []) d_M_lookBound_183 cv_M_lookBound_273 (ly_o hly (by decide)) rfl (Nat.le_of_ble_eq_true rfl) (by decide) (MetS.mono h (fun r w3 hh => ?_))
      obtain ⟨z4, er, h⟩ := hh
      subst er
      refine wp_ly (fun hly => ?_)
      refine wp_aload_n d_M_lookBound_186 (i := 0) rfl 0 rfl ?_
      refine wp_iload d_M_lookBound_187 4 rfl ?_
      refine wp_iconst d_M_lookBound_189 (by decide) ?_
      refine wp_callV (A := [vi x4, vi 1]) (S := [vi z4]) d_M_lookBound_190 cv_M_lookBound_273 (ly_o hly (by decide)) rfl (Nat.le_of_ble_eq_true rfl) (by decide) (MetS.mono h (fun r w5 hh => ?_))
      obtain ⟨z6, er, h⟩ := hh
      subst er
      refine wp_ly (fun hly => ?_)
      refine wp_icmp_eq (tgt := 212) d_M_lookBound_193 (by decide) (fun hc => ?_) (fun hc => ?_)
      · replace h := h.1 hc
        obtain ⟨ho, h⟩ := h
        refine wp_iinc (L' := [(4, vi (x4 + 1)), (0, vr 78), (1, vi x1), (2, vi x2), (3, vi x3)]) d_M_lookBound_212 4 rfl rfl (by decide) ho ?_
        refine wp_goto (tgt := 100) d_M_lookBound_215 (by decide) ?_
        exact wp_pick [1, 2, 3, 4, 0] rfl h
      · replace h := h.2 hc
        refine wp_aload_n d_M_lookBound_196 (i := 0) rfl 0 rfl ?_
        refine wp_iload d_M_lookBound_197 4 rfl ?_
        refine wp_iconst d_M_lookBound_199 (by decide) ?_
        refine wp_callV (A := [vi x4, vi 0]) (S := []) d_M_lookBound_200 cv_M_lookBound_270 (ly_o hly (by decide)) rfl (Nat.le_of_ble_eq_true rfl) (by decide) (MetS.mono h (fun r w7 hh => ?_))
        obtain ⟨er, h⟩ := hh
        subst er
        refine wp_ly (fun hly => ?_)
        refine wp_aload_n d_M_lookBound_203 (i := 0) rfl 0 rfl ?_
        refine wp_iload d_M_lookBound_204 4 rfl ?_
        refine wp_iconst d_M_lookBound_206 (by decide) ?_
        refine wp_callV (A := [vi x4, vi 1]) (S := []) d_M_lookBound_207 cv_M_lookBound_270 (ly_o hly (by decide)) rfl (Nat.le_of_ble_eq_true rfl) (by decide) (MetS.mono h (fun r w8 hh => ?_))
        obtain ⟨er, h⟩ := hh
        subst er
        refine wp_ly (fun hly => ?_)
        refine wp_iconst d_M_lookBound_210 (by decide) ?_
        refine wp_istore_n (L' := [(3, vi 1), (0, vr 78), (1, vi x1), (2, vi x2), (4, vi x4)]) d_M_lookBound_211 (i := 3) rfl rfl (by decide) ?_
        obtain ⟨ho, h⟩ := h
        refine wp_iinc (L' := [(4, vi (x4 + 1)), (3, vi 1), (0, vr 78), (1, vi x1), (2, vi x2)]) d_M_lookBound_212 4 rfl rfl (by decide) ho ?_
        refine wp_goto (tgt := 100) d_M_lookBound_215 (by decide) ?_
        exact wp_pick [2, 3, 4, 1, 0] rfl h
set_option maxRecDepth 20000 in
set_option maxHeartbeats 2000000 in
theorem t_M_lookBound_224 {x4 : Int}  {w : Wo} {Q : Option AV → Wo → Prop} (h : (0 ≤ (gI w 78 31) ∧ (gI w 78 31) < 61) ∧ (((gI w 95 (gI w 78 31).toNat) ≤ x4 → Q none w) ∧ (¬ (gI w 95 (gI w 78 31).toNat) ≤ x4 → (0 ≤ x4 ∧ x4 < 9) ∧ ((¬ (gI w 105 x4.toNat) = 0 → inr32 (x4 + 1) ∧ Wp m_M_lookBound 224 [(0, vr 78), (4, vi (x4 + 1))] [] (0, 0) w Q) ∧ ((gI w 105 x4.toNat) = 0 → (0 ≤ x4 ∧ x4 < 9) ∧ MetV m_M_note [vr 78, vi 3, vi (gI w 104 x4.toNat)] w (fun w4 => inr32 (x4 + 1) ∧ Wp m_M_lookBound 224 [(0, vr 78), (4, vi (x4 + 1))] [] (0, 0) w4 Q)))))) : Wp m_M_lookBound 224 [(0, vr 78), (4, vi x4)] [] (0, 0) w Q := by
  refine wp_ly (fun hly => ?_)
  refine wp_iload d_M_lookBound_224 1 rfl ?_
  refine wp_aload_n d_M_lookBound_226 (i := 0) rfl 0 rfl ?_
  refine wp_getP d_M_lookBound_227 fl_M_59 cl_9 rfl (ly_o hly (by decide)) (ly_r (v := 95) hly (by decide +kernel)) ?_
  refine wp_aload_n d_M_lookBound_230 (i := 0) rfl 0 rfl ?_
  refine wp_getI d_M_lookBound_231 fl_M_196 cl_9 rfl (ly_o hly (by decide)) ?_
  obtain ⟨hi1, h⟩ := h
  refine wp_iaload d_M_lookBound_234 (ly_a (n := 61) (N := 61) hly (by decide) hi1) ?_
  refine wp_icmp_ge (tgt := 266) d_M_lookBound_235 (by decide) (fun hc => ?_) (fun hc => ?_)
  · replace h := h.1 hc
    exact wp_vret d_M_lookBound_266 rfl (by decide) h
  · replace h := h.2 hc
    refine wp_aload_n d_M_lookBound_238 (i := 0) rfl 0 rfl ?_
    refine wp_getP d_M_lookBound_239 fl_M_89 cl_9 rfl (ly_o hly (by decide)) (ly_r (v := 105) hly (by decide +kernel)) ?_
    refine wp_iload d_M_lookBound_242 1 rfl ?_
    obtain ⟨hi2, h⟩ := h
    refine wp_zaload d_M_lookBound_244 (ly_a (n := 9) (N := 9) hly (by decide) hi2) ?_
    refine wp_if_ne (tgt := 260) d_M_lookBound_245 (by decide) (fun hc => ?_) (fun hc => ?_)
    · replace h := h.1 hc
      obtain ⟨ho, h⟩ := h
      refine wp_iinc (L' := [(4, vi (x4 + 1)), (0, vr 78)]) d_M_lookBound_260 1 rfl rfl (by decide) ho ?_
      refine wp_goto (tgt := 224) d_M_lookBound_263 (by decide) ?_
      exact wp_pick [1, 0] rfl h
    · replace h := h.2 hc
      refine wp_aload_n d_M_lookBound_248 (i := 0) rfl 0 rfl ?_
      refine wp_iconst d_M_lookBound_249 (by decide) ?_
      refine wp_aload_n d_M_lookBound_250 (i := 0) rfl 0 rfl ?_
      refine wp_getP d_M_lookBound_251 fl_M_86 cl_9 rfl (ly_o hly (by decide)) (ly_r (v := 104) hly (by decide +kernel)) ?_
      refine wp_iload d_M_lookBound_254 1 rfl ?_
      obtain ⟨hi3, h⟩ := h
      refine wp_iaload d_M_lookBound_256 (ly_a (n := 9) (N := 9) hly (by decide) hi3) ?_
      refine wp_callV (A := [vi 3, vi (gI w 104 x4.toNat)]) (S := []) d_M_lookBound_257 cv_M_lookBound_214 (ly_o hly (by decide)) rfl (Nat.le_of_ble_eq_true rfl) (by decide) (MetS.mono h (fun r w4 hh => ?_))
      obtain ⟨er, h⟩ := hh
      subst er
      refine wp_ly (fun hly => ?_)
      obtain ⟨ho, h⟩ := h
      refine wp_iinc (L' := [(4, vi (x4 + 1)), (0, vr 78)]) d_M_lookBound_260 1 rfl rfl (by decide) ho ?_
      refine wp_goto (tgt := 224) d_M_lookBound_263 (by decide) ?_
      exact wp_pick [1, 0] rfl h
set_option maxRecDepth 20000 in
set_option maxHeartbeats 2000000 in
theorem t_M_predicateSizeOf_0 {x1 : Int}  {w : Wo} {Q : Option AV → Wo → Prop} (h : (0 ≤ x1 ∧ x1 < 366) ∧ Q (some (vi (gI w 109 x1.toNat))) w) : Wp m_M_predicateSizeOf 0 [(0, vr 78), (1, vi x1)] [] (0, 0) w Q := by
  refine wp_ly (fun hly => ?_)
  refine wp_aload_n d_M_predicateSizeOf_0 (i := 0) rfl 0 rfl ?_
  refine wp_getP d_M_predicateSizeOf_1 fl_M_102 cl_9 rfl (ly_o hly (by decide)) (ly_r (v := 109) hly (by decide +kernel)) ?_
  refine wp_iload_n d_M_predicateSizeOf_4 (i := 1) rfl 1 rfl ?_
  obtain ⟨hi1, h⟩ := h
  refine wp_iaload d_M_predicateSizeOf_5 (ly_a (n := 366) (N := 366) hly (by decide) hi1) ?_
  exact wp_iret d_M_predicateSizeOf_6 rfl (by decide) h
set_option maxRecDepth 20000 in
set_option maxHeartbeats 2000000 in
theorem t_M_beginClause_0 {x1 : Int}  {w : Wo} {Q : Option AV → Wo → Prop} (h : (∀ w1 : Wo, w1 = uI w 78 31 x1 → (0 ≤ x1 ∧ x1 < 61) ∧ (∀ w4 : Wo, w4 = uI w1 95 x1.toNat 0 → (0 ≤ x1 ∧ x1 < 61) ∧ (∀ w7 : Wo, w7 = uI w4 94 x1.toNat 0 → (0 ≤ x1 ∧ x1 < 61) ∧ (∀ w10 : Wo, w10 = uI w7 92 x1.toNat 0 → (∀ w12 : Wo, w12 = uI w10 78 42 0 → (∀ w14 : Wo, w14 = uI w12 78 41 (-1) → Q none w14))))))) : Wp m_M_beginClause 0 [(0, vr 78), (1, vi x1)] [] (0, 0) w Q := by
  refine wp_ly (fun hly => ?_)
  refine wp_aload_n d_M_beginClause_0 (i := 0) rfl 0 rfl ?_
  refine wp_iload_n d_M_beginClause_1 (i := 1) rfl 1 rfl ?_
  refine wp_putI d_M_beginClause_2 fl_M_196 cl_9 ⟨rfl, rfl⟩ (ly_o hly (by decide)) (fun w1 e2 => ?_)
  replace h := h w1 e2
  refine wp_ly (fun hly => ?_)
  refine wp_aload_n d_M_beginClause_5 (i := 0) rfl 0 rfl ?_
  refine wp_getP d_M_beginClause_6 fl_M_59 cl_9 rfl (ly_o hly (by decide)) (ly_r (v := 95) hly (by decide +kernel)) ?_
  refine wp_iload_n d_M_beginClause_9 (i := 1) rfl 1 rfl ?_
  refine wp_iconst d_M_beginClause_10 (by decide) ?_
  obtain ⟨hi3, h⟩ := h
  refine wp_iastore d_M_beginClause_11 (ly_a (n := 61) (N := 61) hly (by decide) hi3) (fun w4 e5 => ?_)
  replace h := h w4 e5
  refine wp_ly (fun hly => ?_)
  refine wp_aload_n d_M_beginClause_12 (i := 0) rfl 0 rfl ?_
  refine wp_getP d_M_beginClause_13 fl_M_56 cl_9 rfl (ly_o hly (by decide)) (ly_r (v := 94) hly (by decide +kernel)) ?_
  refine wp_iload_n d_M_beginClause_16 (i := 1) rfl 1 rfl ?_
  refine wp_iconst d_M_beginClause_17 (by decide) ?_
  obtain ⟨hi6, h⟩ := h
  refine wp_iastore d_M_beginClause_18 (ly_a (n := 61) (N := 61) hly (by decide) hi6) (fun w7 e8 => ?_)
  replace h := h w7 e8
  refine wp_ly (fun hly => ?_)
  refine wp_aload_n d_M_beginClause_19 (i := 0) rfl 0 rfl ?_
  refine wp_getP d_M_beginClause_20 fl_M_50 cl_9 rfl (ly_o hly (by decide)) (ly_r (v := 92) hly (by decide +kernel)) ?_
  refine wp_iload_n d_M_beginClause_23 (i := 1) rfl 1 rfl ?_
  refine wp_iconst d_M_beginClause_24 (by decide) ?_
  obtain ⟨hi9, h⟩ := h
  refine wp_iastore d_M_beginClause_25 (ly_a (n := 61) (N := 61) hly (by decide) hi9) (fun w10 e11 => ?_)
  replace h := h w10 e11
  refine wp_ly (fun hly => ?_)
  refine wp_aload_n d_M_beginClause_26 (i := 0) rfl 0 rfl ?_
  refine wp_iconst d_M_beginClause_27 (by decide) ?_
  refine wp_putI d_M_beginClause_28 fl_M_228 cl_9 ⟨rfl, rfl⟩ (ly_o hly (by decide)) (fun w12 e13 => ?_)
  replace h := h w12 e13
  refine wp_ly (fun hly => ?_)
  refine wp_aload_n d_M_beginClause_31 (i := 0) rfl 0 rfl ?_
  refine wp_iconst d_M_beginClause_32 (by decide) ?_
  refine wp_putI d_M_beginClause_33 fl_M_237 cl_9 ⟨rfl, rfl⟩ (ly_o hly (by decide)) (fun w14 e15 => ?_)
  replace h := h w14 e15
  refine wp_ly (fun hly => ?_)
  exact wp_vret d_M_beginClause_36 rfl (by decide) h
set_option maxRecDepth 20000 in
set_option maxHeartbeats 2000000 in
theorem t_M_layHead_0   {w : Wo} {Q : Option AV → Wo → Prop} (h : (0 ≤ (gI w 78 31) ∧ (gI w 78 31) < 61) ∧ (∀ w2 : Wo, w2 = uI w 89 (gI w 78 31).toNat (gI w 78 45) → Wp m_M_layHead 15 [(0, vr 78), (1, vi 0)] [] (0, 0) w2 Q)) : Wp m_M_layHead 0 [(0, vr 78)] [] (0, 0) w Q := by
  refine wp_ly (fun hly => ?_)
  refine wp_aload_n d_M_layHead_0 (i := 0) rfl 0 rfl ?_
  refine wp_getP d_M_layHead_1 fl_M_41 cl_9 rfl (ly_o hly (by decide)) (ly_r (v := 89) hly (by decide +kernel)) ?_
  refine wp_aload_n d_M_layHead_4 (i := 0) rfl 0 rfl ?_
  refine wp_getI d_M_layHead_5 fl_M_196 cl_9 rfl (ly_o hly (by decide)) ?_
  refine wp_aload_n d_M_layHead_8 (i := 0) rfl 0 rfl ?_
  refine wp_getI d_M_layHead_9 fl_M_247 cl_9 rfl (ly_o hly (by decide)) ?_
  obtain ⟨hi1, h⟩ := h
  refine wp_iastore d_M_layHead_12 (ly_a (n := 61) (N := 61) hly (by decide) hi1) (fun w2 e3 => ?_)
  replace h := h w2 e3
  refine wp_ly (fun hly => ?_)
  refine wp_iconst d_M_layHead_13 (by decide) ?_
  refine wp_istore_n (L' := [(1, vi 0), (0, vr 78)]) d_M_layHead_14 (i := 1) rfl rfl (by decide) ?_
  exact wp_pick [1, 0] rfl h
set_option maxRecDepth 20000 in
set_option maxHeartbeats 2000000 in
theorem t_M_layHead_15 {x1 : Int}  {w : Wo} {Q : Option AV → Wo → Prop} (h : (((gI w 78 38) ≤ x1 → (0 ≤ (gI w 78 31) ∧ (gI w 78 31) < 61) ∧ (∀ w2 : Wo, w2 = uI w 92 (gI w 78 31).toNat (gI w 78 42) → (0 ≤ (gI w2 78 31) ∧ (gI w2 78 31) < 61) ∧ (∀ w5 : Wo, w5 = uI w2 93 (gI w2 78 31).toNat (gI w2 78 43) → (0 ≤ (gI w5 78 31) ∧ (gI w5 78 31) < 61) ∧ (∀ w8 : Wo, w8 = uI w5 110 (gI w5 78 31).toNat (gI w5 78 44) → Q none w8)))) ∧ (¬ (gI w 78 38) ≤ x1 → inr32 (4 * (gI w 78 31)) ∧ inr32 ((4 * (gI w 78 31)) + x1) ∧ (0 ≤ x1 ∧ x1 < 4) ∧ (0 ≤ ((4 * (gI w 78 31)) + x1) ∧ ((4 * (gI w 78 31)) + x1) < 244) ∧ (∀ w12 : Wo, w12 = uI w 90 ((4 * (gI w 78 31)) + x1).toNat (gI w 106 x1.toNat) → inr32 (4 * (gI w12 78 31)) ∧ inr32 ((4 * (gI w12 78 31)) + x1) ∧ (0 ≤ x1 ∧ x1 < 4) ∧ (0 ≤ ((4 * (gI w12 78 31)) + x1) ∧ ((4 * (gI w12 78 31)) + x1) < 244) ∧ (∀ w16 : Wo, w16 = uJ w12 91 ((4 * (gI w12 78 31)) + x1).toNat (gJ w12 107 x1.toNat) → inr32 (x1 + 1) ∧ Wp m_M_layHead 15 [(0, vr 78), (1, vi (x1 + 1))] [] (0, 0) w16 Q))))) : Wp m_M_layHead 15 [(0, vr 78), (1, vi x1)] [] (0, 0) w Q := by
  refine wp_ly (fun hly => ?_)
  refine wp_iload_n d_M_layHead_15 (i := 1) rfl 1 rfl ?_
  refine wp_aload_n d_M_layHead_16 (i := 0) rfl 0 rfl ?_
  refine wp_getI d_M_layHead_17 fl_M_222 cl_9 rfl (ly_o hly (by decide)) ?_
  refine wp_icmp_ge (tgt := 67) d_M_layHead_20 (by decide) (fun hc => ?_) (fun hc => ?_)
  · replace h := h.1 hc
    refine wp_aload_n d_M_layHead_67 (i := 0) rfl 0 rfl ?_
    refine wp_getP d_M_layHead_68 fl_M_50 cl_9 rfl (ly_o hly (by decide)) (ly_r (v := 92) hly (by decide +kernel)) ?_
    refine wp_aload_n d_M_layHead_71 (i := 0) rfl 0 rfl ?_
    refine wp_getI d_M_layHead_72 fl_M_196 cl_9 rfl (ly_o hly (by decide)) ?_
    refine wp_aload_n d_M_layHead_75 (i := 0) rfl 0 rfl ?_
    refine wp_getI d_M_layHead_76 fl_M_228 cl_9 rfl (ly_o hly (by decide)) ?_
    obtain ⟨hi1, h⟩ := h
    refine wp_iastore d_M_layHead_79 (ly_a (n := 61) (N := 61) hly (by decide) hi1) (fun w2 e3 => ?_)
    replace h := h w2 e3
    refine wp_ly (fun hly => ?_)
    refine wp_aload_n d_M_layHead_80 (i := 0) rfl 0 rfl ?_
    refine wp_getP d_M_layHead_81 fl_M_53 cl_9 rfl (ly_o hly (by decide)) (ly_r (v := 93) hly (by decide +kernel)) ?_
    refine wp_aload_n d_M_layHead_84 (i := 0) rfl 0 rfl ?_
    refine wp_getI d_M_layHead_85 fl_M_196 cl_9 rfl (ly_o hly (by decide)) ?_
    refine wp_aload_n d_M_layHead_88 (i := 0) rfl 0 rfl ?_
    refine wp_getI d_M_layHead_89 fl_M_231 cl_9 rfl (ly_o hly (by decide)) ?_
    obtain ⟨hi4, h⟩ := h
    refine wp_iastore d_M_layHead_92 (ly_a (n := 61) (N := 61) hly (by decide) hi4) (fun w5 e6 => ?_)
    replace h := h w5 e6
    refine wp_ly (fun hly => ?_)
    refine wp_aload_n d_M_layHead_93 (i := 0) rfl 0 rfl ?_
    refine wp_getP d_M_layHead_94 fl_M_105 cl_9 rfl (ly_o hly (by decide)) (ly_r (v := 110) hly (by decide +kernel)) ?_
    refine wp_aload_n d_M_layHead_97 (i := 0) rfl 0 rfl ?_
    refine wp_getI d_M_layHead_98 fl_M_196 cl_9 rfl (ly_o hly (by decide)) ?_
    refine wp_aload_n d_M_layHead_101 (i := 0) rfl 0 rfl ?_
    refine wp_getI d_M_layHead_102 fl_M_234 cl_9 rfl (ly_o hly (by decide)) ?_
    obtain ⟨hi7, h⟩ := h
    refine wp_iastore d_M_layHead_105 (ly_a (n := 61) (N := 61) hly (by decide) hi7) (fun w8 e9 => ?_)
    replace h := h w8 e9
    refine wp_ly (fun hly => ?_)
    exact wp_vret d_M_layHead_106 rfl (by decide) h
  · replace h := h.2 hc
    refine wp_aload_n d_M_layHead_23 (i := 0) rfl 0 rfl ?_
    refine wp_getP d_M_layHead_24 fl_M_44 cl_9 rfl (ly_o hly (by decide)) (ly_r (v := 90) hly (by decide +kernel)) ?_
    refine wp_iconst d_M_layHead_27 (by decide) ?_
    refine wp_aload_n d_M_layHead_28 (i := 0) rfl 0 rfl ?_
    refine wp_getI d_M_layHead_29 fl_M_196 cl_9 rfl (ly_o hly (by decide)) ?_
    obtain ⟨ho, h⟩ := h
    refine wp_imul d_M_layHead_32 ho ?_
    refine wp_iload_n d_M_layHead_33 (i := 1) rfl 1 rfl ?_
    obtain ⟨ho, h⟩ := h
    refine wp_iadd d_M_layHead_34 ho ?_
    refine wp_aload_n d_M_layHead_35 (i := 0) rfl 0 rfl ?_
    refine wp_getP d_M_layHead_36 fl_M_93 cl_9 rfl (ly_o hly (by decide)) (ly_r (v := 106) hly (by decide +kernel)) ?_
    refine wp_iload_n d_M_layHead_39 (i := 1) rfl 1 rfl ?_
    obtain ⟨hi10, h⟩ := h
    refine wp_iaload d_M_layHead_40 (ly_a (n := 4) (N := 4) hly (by decide) hi10) ?_
    obtain ⟨hi11, h⟩ := h
    refine wp_iastore d_M_layHead_41 (ly_a (n := 244) (N := 244) hly (by decide) hi11) (fun w12 e13 => ?_)
    replace h := h w12 e13
    refine wp_ly (fun hly => ?_)
    refine wp_aload_n d_M_layHead_42 (i := 0) rfl 0 rfl ?_
    refine wp_getP d_M_layHead_43 fl_M_47 cl_9 rfl (ly_o hly (by decide)) (ly_r (v := 91) hly (by decide +kernel)) ?_
    refine wp_iconst d_M_layHead_46 (by decide) ?_
    refine wp_aload_n d_M_layHead_47 (i := 0) rfl 0 rfl ?_
    refine wp_getI d_M_layHead_48 fl_M_196 cl_9 rfl (ly_o hly (by decide)) ?_
    obtain ⟨ho, h⟩ := h
    refine wp_imul d_M_layHead_51 ho ?_
    refine wp_iload_n d_M_layHead_52 (i := 1) rfl 1 rfl ?_
    obtain ⟨ho, h⟩ := h
    refine wp_iadd d_M_layHead_53 ho ?_
    refine wp_aload_n d_M_layHead_54 (i := 0) rfl 0 rfl ?_
    refine wp_getP d_M_layHead_55 fl_M_96 cl_9 rfl (ly_o hly (by decide)) (ly_r (v := 107) hly (by decide +kernel)) ?_
    refine wp_iload_n d_M_layHead_58 (i := 1) rfl 1 rfl ?_
    obtain ⟨hi14, h⟩ := h
    refine wp_laload d_M_layHead_59 (ly_a (n := 4) (N := 4) hly (by decide) hi14) ?_
    obtain ⟨hi15, h⟩ := h
    refine wp_lastore d_M_layHead_60 (ly_a (n := 244) (N := 244) hly (by decide) hi15) (fun w16 e17 => ?_)
    replace h := h w16 e17
    refine wp_ly (fun hly => ?_)
    obtain ⟨ho, h⟩ := h
    refine wp_iinc (L' := [(1, vi (x1 + 1)), (0, vr 78)]) d_M_layHead_61 1 rfl rfl (by decide) ho ?_
    refine wp_goto (tgt := 15) d_M_layHead_64 (by decide) ?_
    exact wp_pick [1, 0] rfl h
set_option maxRecDepth 20000 in
set_option maxHeartbeats 2000000 in
theorem t_M_findFact_0   {w : Wo} {Q : Option AV → Wo → Prop} (h : inr32 (200 * (gI w 78 37)) ∧ Wp m_M_findFact 9 [(0, vr 78), (1, vi (200 * (gI w 78 37)))] [] (0, 0) w Q) : Wp m_M_findFact 0 [(0, vr 78)] [] (0, 0) w Q := by
  refine wp_ly (fun hly => ?_)
  refine wp_sipush d_M_findFact_0 (by decide) (by decide) ?_
  refine wp_aload_n d_M_findFact_3 (i := 0) rfl 0 rfl ?_
  refine wp_getI d_M_findFact_4 fl_M_211 cl_9 rfl (ly_o hly (by decide)) ?_
  obtain ⟨ho, h⟩ := h
  refine wp_imul d_M_findFact_7 ho ?_
  refine wp_istore_n (L' := [(1, vi (200 * (gI w 78 37))), (0, vr 78)]) d_M_findFact_8 (i := 1) rfl rfl (by decide) ?_
  exact wp_pick [1, 0] rfl h
set_option maxRecDepth 20000 in
set_option maxHeartbeats 2000000 in
theorem t_M_findFact_9 {x1 : Int}  {w : Wo} {Q : Option AV → Wo → Prop} (h : inr32 (200 * (gI w 78 37)) ∧ (0 ≤ (gI w 78 37) ∧ (gI w 78 37) < 2) ∧ inr32 ((200 * (gI w 78 37)) + (gI w 100 (gI w 78 37).toNat)) ∧ ((((200 * (gI w 78 37)) + (gI w 100 (gI w 78 37).toNat)) ≤ x1 → Q (some (vi (-1))) w) ∧ (¬ ((200 * (gI w 78 37)) + (gI w 100 (gI w 78 37).toNat)) ≤ x1 → (0 ≤ x1 ∧ x1 < 400) ∧ ((¬ (gI w 101 x1.toNat) = (gI w 78 45) → Wp m_M_findFact 52 [(0, vr 78), (1, vi x1), (2, vi 0), (3, vi 0)] [] (0, 0) w Q) ∧ ((gI w 101 x1.toNat) = (gI w 78 45) → Wp m_M_findFact 52 [(0, vr 78), (1, vi x1), (2, vi 1), (3, vi 0)] [] (0, 0) w Q))))) : Wp m_M_findFact 9 [(0, vr 78), (1, vi x1)] [] (0, 0) w Q := by
  refine wp_ly (fun hly => ?_)
  refine wp_iload_n d_M_findFact_9 (i := 1) rfl 1 rfl ?_
  refine wp_sipush d_M_findFact_10 (by decide) (by decide) ?_
  refine wp_aload_n d_M_findFact_13 (i := 0) rfl 0 rfl ?_
  refine wp_getI d_M_findFact_14 fl_M_211 cl_9 rfl (ly_o hly (by decide)) ?_
  obtain ⟨ho, h⟩ := h
  refine wp_imul d_M_findFact_17 ho ?_
  refine wp_aload_n d_M_findFact_18 (i := 0) rfl 0 rfl ?_
  refine wp_getP d_M_findFact_19 fl_M_74 cl_9 rfl (ly_o hly (by decide)) (ly_r (v := 100) hly (by decide +kernel)) ?_
  refine wp_aload_n d_M_findFact_22 (i := 0) rfl 0 rfl ?_
  refine wp_getI d_M_findFact_23 fl_M_211 cl_9 rfl (ly_o hly (by decide)) ?_
  obtain ⟨hi1, h⟩ := h
  refine wp_iaload d_M_findFact_26 (ly_a (n := 2) (N := 2) hly (by decide) hi1) ?_
  obtain ⟨ho, h⟩ := h
  refine wp_iadd d_M_findFact_27 ho ?_
  refine wp_icmp_ge (tgt := 108) d_M_findFact_28 (by decide) (fun hc => ?_) (fun hc => ?_)
  · replace h := h.1 hc
    refine wp_iconst d_M_findFact_108 (by decide) ?_
    exact wp_iret d_M_findFact_109 rfl (by decide) h
  · replace h := h.2 hc
    refine wp_aload_n d_M_findFact_31 (i := 0) rfl 0 rfl ?_
    refine wp_getP d_M_findFact_32 fl_M_77 cl_9 rfl (ly_o hly (by decide)) (ly_r (v := 101) hly (by decide +kernel)) ?_
    refine wp_iload_n d_M_findFact_35 (i := 1) rfl 1 rfl ?_
    obtain ⟨hi2, h⟩ := h
    refine wp_iaload d_M_findFact_36 (ly_a (n := 400) (N := 400) hly (by decide) hi2) ?_
    refine wp_aload_n d_M_findFact_37 (i := 0) rfl 0 rfl ?_
    refine wp_getI d_M_findFact_38 fl_M_247 cl_9 rfl (ly_o hly (by decide)) ?_
    refine wp_icmp_ne (tgt := 48) d_M_findFact_41 (by decide) (fun hc => ?_) (fun hc => ?_)
    · replace h := h.1 hc
      refine wp_iconst d_M_findFact_48 (by decide) ?_
      refine wp_istore_n (L' := [(2, vi 0), (0, vr 78), (1, vi x1)]) d_M_findFact_49 (i := 2) rfl rfl (by decide) ?_
      refine wp_iconst d_M_findFact_50 (by decide) ?_
      refine wp_istore_n (L' := [(3, vi 0), (2, vi 0), (0, vr 78), (1, vi x1)]) d_M_findFact_51 (i := 3) rfl rfl (by decide) ?_
      exact wp_pick [2, 3, 1, 0] rfl h
    · replace h := h.2 hc
      refine wp_iconst d_M_findFact_44 (by decide) ?_
      refine wp_goto (tgt := 49) d_M_findFact_45 (by decide) ?_
      refine wp_istore_n (L' := [(2, vi 1), (0, vr 78), (1, vi x1)]) d_M_findFact_49 (i := 2) rfl rfl (by decide) ?_
      refine wp_iconst d_M_findFact_50 (by decide) ?_
      refine wp_istore_n (L' := [(3, vi 0), (2, vi 1), (0, vr 78), (1, vi x1)]) d_M_findFact_51 (i := 3) rfl rfl (by decide) ?_
      exact wp_pick [2, 3, 1, 0] rfl h
set_option maxRecDepth 20000 in
set_option maxHeartbeats 2000000 in
theorem t_M_findFact_52 {x1 : Int} {x2 : Int} {x3 : Int}  {w : Wo} {Q : Option AV → Wo → Prop} (h : ((x2 = 0 → ((x2 = 0 → inr32 (x1 + 1) ∧ Wp m_M_findFact 9 [(0, vr 78), (1, vi (x1 + 1))] [] (0, 0) w Q) ∧ (¬ x2 = 0 → Q (some (vi x1)) w))) ∧ (¬ x2 = 0 → (((gI w 78 38) ≤ x3 → ((x2 = 0 → inr32 (x1 + 1) ∧ Wp m_M_findFact 9 [(0, vr 78), (1, vi (x1 + 1))] [] (0, 0) w Q) ∧ (¬ x2 = 0 → Q (some (vi x1)) w))) ∧ (¬ (gI w 78 38) ≤ x3 → inr32 (4 * x1) ∧ inr32 ((4 * x1) + x3) ∧ (0 ≤ ((4 * x1) + x3) ∧ ((4 * x1) + x3) < 1600) ∧ (0 ≤ x3 ∧ x3 < 4) ∧ ((¬ (b_lcmp (gJ w 102 ((4 * x1) + x3).toNat) (gJ w 107 x3.toNat)) = 0 → inr32 (x3 + 1) ∧ Wp m_M_findFact 52 [(0, vr 78), (1, vi x1), (2, vi 0), (3, vi (x3 + 1))] [] (0, 0) w Q) ∧ ((b_lcmp (gJ w 102 ((4 * x1) + x3).toNat) (gJ w 107 x3.toNat)) = 0 → inr32 (x3 + 1) ∧ Wp m_M_findFact 52 [(0, vr 78), (1, vi x1), (2, vi 1), (3, vi (x3 + 1))] [] (0, 0) w Q))))))) : Wp m_M_findFact 52 [(0, vr 78), (1, vi x1), (2, vi x2), (3, vi x3)] [] (0, 0) w Q := by
  refine wp_ly (fun hly => ?_)
  refine wp_iload_n d_M_findFact_52 (i := 2) rfl 2 rfl ?_
  refine wp_if_eq (tgt := 96) d_M_findFact_53 (by decide) (fun hc => ?_) (fun hc => ?_)
  · replace h := h.1 hc
    refine wp_iload_n d_M_findFact_96 (i := 2) rfl 2 rfl ?_
    refine wp_if_eq (tgt := 102) d_M_findFact_97 (by decide) (fun hc => ?_) (fun hc => ?_)
    · replace h := h.1 hc
      obtain ⟨ho, h⟩ := h
      refine wp_iinc (L' := [(1, vi (x1 + 1)), (0, vr 78), (2, vi x2), (3, vi x3)]) d_M_findFact_102 1 rfl rfl (by decide) ho ?_
      refine wp_goto (tgt := 9) d_M_findFact_105 (by decide) ?_
      exact wp_pick [1, 0] rfl h
    · replace h := h.2 hc
      refine wp_iload_n d_M_findFact_100 (i := 1) rfl 1 rfl ?_
      exact wp_iret d_M_findFact_101 rfl (by decide) h
  · replace h := h.2 hc
    refine wp_iload_n d_M_findFact_56 (i := 3) rfl 3 rfl ?_
    refine wp_aload_n d_M_findFact_57 (i := 0) rfl 0 rfl ?_
    refine wp_getI d_M_findFact_58 fl_M_222 cl_9 rfl (ly_o hly (by decide)) ?_
    refine wp_icmp_ge (tgt := 96) d_M_findFact_61 (by decide) (fun hc => ?_) (fun hc => ?_)
    · replace h := h.1 hc
      refine wp_iload_n d_M_findFact_96 (i := 2) rfl 2 rfl ?_
      refine wp_if_eq (tgt := 102) d_M_findFact_97 (by decide) (fun hc => ?_) (fun hc => ?_)
      · replace h := h.1 hc
        obtain ⟨ho, h⟩ := h
        refine wp_iinc (L' := [(1, vi (x1 + 1)), (0, vr 78), (2, vi x2), (3, vi x3)]) d_M_findFact_102 1 rfl rfl (by decide) ho ?_
        refine wp_goto (tgt := 9) d_M_findFact_105 (by decide) ?_
        exact wp_pick [1, 0] rfl h
      · replace h := h.2 hc
        refine wp_iload_n d_M_findFact_100 (i := 1) rfl 1 rfl ?_
        exact wp_iret d_M_findFact_101 rfl (by decide) h
    · replace h := h.2 hc
      refine wp_aload_n d_M_findFact_64 (i := 0) rfl 0 rfl ?_
      refine wp_getP d_M_findFact_65 fl_M_80 cl_9 rfl (ly_o hly (by decide)) (ly_r (v := 102) hly (by decide +kernel)) ?_
      refine wp_iconst d_M_findFact_68 (by decide) ?_
      refine wp_iload_n d_M_findFact_69 (i := 1) rfl 1 rfl ?_
      obtain ⟨ho, h⟩ := h
      refine wp_imul d_M_findFact_70 ho ?_
      refine wp_iload_n d_M_findFact_71 (i := 3) rfl 3 rfl ?_
      obtain ⟨ho, h⟩ := h
      refine wp_iadd d_M_findFact_72 ho ?_
      obtain ⟨hi1, h⟩ := h
      refine wp_laload d_M_findFact_73 (ly_a (n := 1600) (N := 1600) hly (by decide) hi1) ?_
      refine wp_aload_n d_M_findFact_74 (i := 0) rfl 0 rfl ?_
      refine wp_getP d_M_findFact_75 fl_M_96 cl_9 rfl (ly_o hly (by decide)) (ly_r (v := 107) hly (by decide +kernel)) ?_
      refine wp_iload_n d_M_findFact_78 (i := 3) rfl 3 rfl ?_
      obtain ⟨hi2, h⟩ := h
      refine wp_laload d_M_findFact_79 (ly_a (n := 4) (N := 4) hly (by decide) hi2) ?_
      refine wp_lcmp d_M_findFact_80 ?_
      refine wp_if_ne (tgt := 88) d_M_findFact_81 (by decide) (fun hc => ?_) (fun hc => ?_)
      · replace h := h.1 hc
        refine wp_iconst d_M_findFact_88 (by decide) ?_
        refine wp_istore_n (L' := [(2, vi 0), (0, vr 78), (1, vi x1), (3, vi x3)]) d_M_findFact_89 (i := 2) rfl rfl (by decide) ?_
        obtain ⟨ho, h⟩ := h
        refine wp_iinc (L' := [(3, vi (x3 + 1)), (2, vi 0), (0, vr 78), (1, vi x1)]) d_M_findFact_90 3 rfl rfl (by decide) ho ?_
        refine wp_goto (tgt := 52) d_M_findFact_93 (by decide) ?_
        exact wp_pick [2, 3, 1, 0] rfl h
      · replace h := h.2 hc
        refine wp_iconst d_M_findFact_84 (by decide) ?_
        refine wp_goto (tgt := 89) d_M_findFact_85 (by decide) ?_
        refine wp_istore_n (L' := [(2, vi 1), (0, vr 78), (1, vi x1), (3, vi x3)]) d_M_findFact_89 (i := 2) rfl rfl (by decide) ?_
        obtain ⟨ho, h⟩ := h
        refine wp_iinc (L' := [(3, vi (x3 + 1)), (2, vi 1), (0, vr 78), (1, vi x1)]) d_M_findFact_90 3 rfl rfl (by decide) ho ?_
        refine wp_goto (tgt := 52) d_M_findFact_93 (by decide) ?_
        exact wp_pick [2, 3, 1, 0] rfl h
set_option maxRecDepth 20000 in
set_option maxHeartbeats 2000000 in
theorem t_M_addFact_0   {w : Wo} {Q : Option AV → Wo → Prop} (h : inr32 (200 * (gI w 78 37)) ∧ (0 ≤ (gI w 78 37) ∧ (gI w 78 37) < 2) ∧ inr32 ((200 * (gI w 78 37)) + (gI w 100 (gI w 78 37).toNat)) ∧ (0 ≤ ((200 * (gI w 78 37)) + (gI w 100 (gI w 78 37).toNat)) ∧ ((200 * (gI w 78 37)) + (gI w 100 (gI w 78 37).toNat)) < 400) ∧ (∀ w3 : Wo, w3 = uI w 101 ((200 * (gI w 78 37)) + (gI w 100 (gI w 78 37).toNat)).toNat (gI w 78 45) → Wp m_M_addFact 31 [(0, vr 78), (1, vi ((200 * (gI w 78 37)) + (gI w 100 (gI w 78 37).toNat))), (2, vi 0)] [] (0, 0) w3 Q)) : Wp m_M_addFact 0 [(0, vr 78)] [] (0, 0) w Q := by
  refine wp_ly (fun hly => ?_)
  refine wp_sipush d_M_addFact_0 (by decide) (by decide) ?_
  refine wp_aload_n d_M_addFact_3 (i := 0) rfl 0 rfl ?_
  refine wp_getI d_M_addFact_4 fl_M_211 cl_9 rfl (ly_o hly (by decide)) ?_
  obtain ⟨ho, h⟩ := h
  refine wp_imul d_M_addFact_7 ho ?_
  refine wp_aload_n d_M_addFact_8 (i := 0) rfl 0 rfl ?_
  refine wp_getP d_M_addFact_9 fl_M_74 cl_9 rfl (ly_o hly (by decide)) (ly_r (v := 100) hly (by decide +kernel)) ?_
  refine wp_aload_n d_M_addFact_12 (i := 0) rfl 0 rfl ?_
  refine wp_getI d_M_addFact_13 fl_M_211 cl_9 rfl (ly_o hly (by decide)) ?_
  obtain ⟨hi1, h⟩ := h
  refine wp_iaload d_M_addFact_16 (ly_a (n := 2) (N := 2) hly (by decide) hi1) ?_
  obtain ⟨ho, h⟩ := h
  refine wp_iadd d_M_addFact_17 ho ?_
  refine wp_istore_n (L' := [(1, vi ((200 * (gI w 78 37)) + (gI w 100 (gI w 78 37).toNat))), (0, vr 78)]) d_M_addFact_18 (i := 1) rfl rfl (by decide) ?_
  refine wp_aload_n d_M_addFact_19 (i := 0) rfl 1 rfl ?_
  refine wp_getP d_M_addFact_20 fl_M_77 cl_9 rfl (ly_o hly (by decide)) (ly_r (v := 101) hly (by decide +kernel)) ?_
  refine wp_iload_n d_M_addFact_23 (i := 1) rfl 0 rfl ?_
  refine wp_aload_n d_M_addFact_24 (i := 0) rfl 1 rfl ?_
  refine wp_getI d_M_addFact_25 fl_M_247 cl_9 rfl (ly_o hly (by decide)) ?_
  obtain ⟨hi2, h⟩ := h
  refine wp_iastore d_M_addFact_28 (ly_a (n := 400) (N := 400) hly (by decide) hi2) (fun w3 e4 => ?_)
  replace h := h w3 e4
  refine wp_ly (fun hly => ?_)
  refine wp_iconst d_M_addFact_29 (by decide) ?_
  refine wp_istore_n (L' := [(2, vi 0), (1, vi ((200 * (gI w 78 37)) + (gI w 100 (gI w 78 37).toNat))), (0, vr 78)]) d_M_addFact_30 (i := 2) rfl rfl (by decide) ?_
  exact wp_pick [2, 1, 0] rfl h
set_option maxRecDepth 20000 in
set_option maxHeartbeats 2000000 in
theorem t_M_addFact_31 {x1 : Int} {x2 : Int}  {w : Wo} {Q : Option AV → Wo → Prop} (h : (((gI w 78 38) ≤ x2 → (0 ≤ (gI w 78 37) ∧ (gI w 78 37) < 2) ∧ inr32 ((gI w 100 (gI w 78 37).toNat) + 1) ∧ (0 ≤ (gI w 78 37) ∧ (gI w 78 37) < 2) ∧ (∀ w3 : Wo, w3 = uI w 100 (gI w 78 37).toNat ((gI w 100 (gI w 78 37).toNat) + 1) → Q none w3)) ∧ (¬ (gI w 78 38) ≤ x2 → inr32 (4 * x1) ∧ inr32 ((4 * x1) + x2) ∧ (0 ≤ x2 ∧ x2 < 4) ∧ (0 ≤ ((4 * x1) + x2) ∧ ((4 * x1) + x2) < 1600) ∧ (∀ w7 : Wo, w7 = uJ w 102 ((4 * x1) + x2).toNat (gJ w 107 x2.toNat) → inr32 (x2 + 1) ∧ Wp m_M_addFact 31 [(0, vr 78), (1, vi x1), (2, vi (x2 + 1))] [] (0, 0) w7 Q)))) : Wp m_M_addFact 31 [(0, vr 78), (1, vi x1), (2, vi x2)] [] (0, 0) w Q := by
  refine wp_ly (fun hly => ?_)
  refine wp_iload_n d_M_addFact_31 (i := 2) rfl 2 rfl ?_
  refine wp_aload_n d_M_addFact_32 (i := 0) rfl 0 rfl ?_
  refine wp_getI d_M_addFact_33 fl_M_222 cl_9 rfl (ly_o hly (by decide)) ?_
  refine wp_icmp_ge (tgt := 61) d_M_addFact_36 (by decide) (fun hc => ?_) (fun hc => ?_)
  · replace h := h.1 hc
    refine wp_aload_n d_M_addFact_61 (i := 0) rfl 0 rfl ?_
    refine wp_getP d_M_addFact_62 fl_M_74 cl_9 rfl (ly_o hly (by decide)) (ly_r (v := 100) hly (by decide +kernel)) ?_
    refine wp_aload_n d_M_addFact_65 (i := 0) rfl 0 rfl ?_
    refine wp_getI d_M_addFact_66 fl_M_211 cl_9 rfl (ly_o hly (by decide)) ?_
    refine wp_dup2 d_M_addFact_69 rfl rfl ?_
    obtain ⟨hi1, h⟩ := h
    refine wp_iaload d_M_addFact_70 (ly_a (n := 2) (N := 2) hly (by decide) hi1) ?_
    refine wp_iconst d_M_addFact_71 (by decide) ?_
    obtain ⟨ho, h⟩ := h
    refine wp_iadd d_M_addFact_72 ho ?_
    obtain ⟨hi2, h⟩ := h
    refine wp_iastore d_M_addFact_73 (ly_a (n := 2) (N := 2) hly (by decide) hi2) (fun w3 e4 => ?_)
    replace h := h w3 e4
    refine wp_ly (fun hly => ?_)
    exact wp_vret d_M_addFact_74 rfl (by decide) h
  · replace h := h.2 hc
    refine wp_aload_n d_M_addFact_39 (i := 0) rfl 0 rfl ?_
    refine wp_getP d_M_addFact_40 fl_M_80 cl_9 rfl (ly_o hly (by decide)) (ly_r (v := 102) hly (by decide +kernel)) ?_
    refine wp_iconst d_M_addFact_43 (by decide) ?_
    refine wp_iload_n d_M_addFact_44 (i := 1) rfl 1 rfl ?_
    obtain ⟨ho, h⟩ := h
    refine wp_imul d_M_addFact_45 ho ?_
    refine wp_iload_n d_M_addFact_46 (i := 2) rfl 2 rfl ?_
    obtain ⟨ho, h⟩ := h
    refine wp_iadd d_M_addFact_47 ho ?_
    refine wp_aload_n d_M_addFact_48 (i := 0) rfl 0 rfl ?_
    refine wp_getP d_M_addFact_49 fl_M_96 cl_9 rfl (ly_o hly (by decide)) (ly_r (v := 107) hly (by decide +kernel)) ?_
    refine wp_iload_n d_M_addFact_52 (i := 2) rfl 2 rfl ?_
    obtain ⟨hi5, h⟩ := h
    refine wp_laload d_M_addFact_53 (ly_a (n := 4) (N := 4) hly (by decide) hi5) ?_
    obtain ⟨hi6, h⟩ := h
    refine wp_lastore d_M_addFact_54 (ly_a (n := 1600) (N := 1600) hly (by decide) hi6) (fun w7 e8 => ?_)
    replace h := h w7 e8
    refine wp_ly (fun hly => ?_)
    obtain ⟨ho, h⟩ := h
    refine wp_iinc (L' := [(2, vi (x2 + 1)), (0, vr 78), (1, vi x1)]) d_M_addFact_55 2 rfl rfl (by decide) ho ?_
    refine wp_goto (tgt := 31) d_M_addFact_58 (by decide) ?_
    exact wp_pick [1, 2, 0] rfl h
set_option maxRecDepth 20000 in
set_option maxHeartbeats 2000000 in
theorem t_M_readClause_0   {w : Wo} {Q : Option AV → Wo → Prop} (h : (0 ≤ (gI w 78 37) ∧ (gI w 78 37) < 2) ∧ ((¬ (gI w 88 (gI w 78 37).toNat) = 30 → inr32 (30 * (gI w 78 37)) ∧ (0 ≤ (gI w 78 37) ∧ (gI w 78 37) < 2) ∧ inr32 ((30 * (gI w 78 37)) + (gI w 88 (gI w 78 37).toNat)) ∧ MetV m_M_beginClause [vr 78, vi ((30 * (gI w 78 37)) + (gI w 88 (gI w 78 37).toNat))] w (fun w3 => (0 ≤ (gI w3 78 10) ∧ (gI w3 78 10) < 602) ∧ MetI m_M_readArguments [vr 78, vi 1, vi 0] w3 (fun z6 w5 => ((¬ z6 = 0 → MetV m_M_layHead [vr 78] w5 (fun w7 => MetI m_M_takes [vr 78, vi 46] w7 (fun z9 w8 => ((z9 = 0 → MetI m_M_isSign [vr 78, vi 300] w8 (fun z11 w10 => ((¬ z11 = 0 → (0 ≤ (gI w10 78 37) ∧ (gI w10 78 37) < 2) ∧ ((¬ (gI w10 88 (gI w10 78 37).toNat) = 30 → inr32 ((gI w10 78 10) + 1) ∧ (∀ w13 : Wo, w13 = uI w10 78 10 ((gI w10 78 10) + 1) → MetI m_M_readBody [vr 78] w13 (fun z16 w15 => ((z16 = 0 → Q (some (vi 0)) w15) ∧ (¬ z16 = 0 → MetI m_M_want [vr 78, vi 46] w15 (fun z18 w17 => ((¬ z18 = 0 → MetV m_M_lookBound [vr 78] w17 (fun w19 => (0 ≤ (gI w19 78 37) ∧ (gI w19 78 37) < 2) ∧ inr32 ((gI w19 88 (gI w19 78 37).toNat) + 1) ∧ (0 ≤ (gI w19 78 37) ∧ (gI w19 78 37) < 2) ∧ (∀ w22 : Wo, w22 = uI w19 88 (gI w19 78 37).toNat ((gI w19 88 (gI w19 78 37).toNat) + 1) → Q (some (vi 1)) w22))) ∧ (z18 = 0 → Q (some (vi 0)) w17)))))))) ∧ ((gI w10 88 (gI w10 78 37).toNat) = 30 → MetI m_M_wrong [vr 78, vi (gI w3 81 (gI w3 78 10).toNat)] w10 (fun z25 w24 => (z25 = 0 ∨ z25 = 1) ∧ Q (some (vi z25)) w24)))) ∧ (z11 = 0 → MetI m_M_refuse [vr 78] w10 (fun z27 w26 => (z27 = 0 ∨ z27 = 1) ∧ Q (some (vi z27)) w26))))) ∧ (¬ z9 = 0 → (((gI w8 78 41) = (-1) → MetI m_M_findFact [vr 78] w8 (fun z29 w28 => ((¬ z29 = (-1) → Q (some (vi 1)) w28) ∧ (z29 = (-1) → MetV m_M_addFact [vr 78] w28 (fun w30 => Q (some (vi 1)) w30))))) ∧ (¬ (gI w8 78 41) = (-1) → MetI m_M_wrong [vr 78, vi (gI w8 78 41)] w8 (fun z32 w31 => (z32 = 0 ∨ z32 = 1) ∧ Q (some (vi z32)) w31)))))))) ∧ (z6 = 0 → Q (some (vi 0)) w5))))) ∧ ((gI w 88 (gI w 78 37).toNat) = 30 → MetV m_M_beginClause [vr 78, vi 60] w (fun w33 => (0 ≤ (gI w33 78 10) ∧ (gI w33 78 10) < 602) ∧ MetI m_M_readArguments [vr 78, vi 1, vi 0] w33 (fun z36 w35 => ((¬ z36 = 0 → MetV m_M_layHead [vr 78] w35 (fun w37 => MetI m_M_takes [vr 78, vi 46] w37 (fun z39 w38 => ((z39 = 0 → MetI m_M_isSign [vr 78, vi 300] w38 (fun z41 w40 => ((¬ z41 = 0 → (0 ≤ (gI w40 78 37) ∧ (gI w40 78 37) < 2) ∧ ((¬ (gI w40 88 (gI w40 78 37).toNat) = 30 → inr32 ((gI w40 78 10) + 1) ∧ (∀ w43 : Wo, w43 = uI w40 78 10 ((gI w40 78 10) + 1) → MetI m_M_readBody [vr 78] w43 (fun z46 w45 => ((z46 = 0 → Q (some (vi 0)) w45) ∧ (¬ z46 = 0 → MetI m_M_want [vr 78, vi 46] w45 (fun z48 w47 => ((¬ z48 = 0 → MetV m_M_lookBound [vr 78] w47 (fun w49 => (0 ≤ (gI w49 78 37) ∧ (gI w49 78 37) < 2) ∧ inr32 ((gI w49 88 (gI w49 78 37).toNat) + 1) ∧ (0 ≤ (gI w49 78 37) ∧ (gI w49 78 37) < 2) ∧ (∀ w52 : Wo, w52 = uI w49 88 (gI w49 78 37).toNat ((gI w49 88 (gI w49 78 37).toNat) + 1) → Q (some (vi 1)) w52))) ∧ (z48 = 0 → Q (some (vi 0)) w47)))))))) ∧ ((gI w40 88 (gI w40 78 37).toNat) = 30 → MetI m_M_wrong [vr 78, vi (gI w33 81 (gI w33 78 10).toNat)] w40 (fun z55 w54 => (z55 = 0 ∨ z55 = 1) ∧ Q (some (vi z55)) w54)))) ∧ (z41 = 0 → MetI m_M_refuse [vr 78] w40 (fun z57 w56 => (z57 = 0 ∨ z57 = 1) ∧ Q (some (vi z57)) w56))))) ∧ (¬ z39 = 0 → (((gI w38 78 41) = (-1) → MetI m_M_findFact [vr 78] w38 (fun z59 w58 => ((¬ z59 = (-1) → Q (some (vi 1)) w58) ∧ (z59 = (-1) → MetV m_M_addFact [vr 78] w58 (fun w60 => Q (some (vi 1)) w60))))) ∧ (¬ (gI w38 78 41) = (-1) → MetI m_M_wrong [vr 78, vi (gI w38 78 41)] w38 (fun z62 w61 => (z62 = 0 ∨ z62 = 1) ∧ Q (some (vi z62)) w61)))))))) ∧ (z36 = 0 → Q (some (vi 0)) w35))))))) : Wp m_M_readClause 0 [(0, vr 78)] [] (0, 0) w Q := by
  refine wp_ly (fun hly => ?_)
  refine wp_aload_n d_M_readClause_0 (i := 0) rfl 0 rfl ?_
  refine wp_aload_n d_M_readClause_1 (i := 0) rfl 0 rfl ?_
  refine wp_getP d_M_readClause_2 fl_M_38 cl_9 rfl (ly_o hly (by decide)) (ly_r (v := 88) hly (by decide +kernel)) ?_
  refine wp_aload_n d_M_readClause_5 (i := 0) rfl 0 rfl ?_
  refine wp_getI d_M_readClause_6 fl_M_211 cl_9 rfl (ly_o hly (by decide)) ?_
  obtain ⟨hi1, h⟩ := h
  refine wp_iaload d_M_readClause_9 (ly_a (n := 2) (N := 2) hly (by decide) hi1) ?_
  refine wp_bipush d_M_readClause_10 (by decide) (by decide) ?_
  refine wp_icmp_ne (tgt := 20) d_M_readClause_12 (by decide) (fun hc => ?_) (fun hc => ?_)
  · replace h := h.1 hc
    refine wp_bipush d_M_readClause_20 (by decide) (by decide) ?_
    refine wp_aload_n d_M_readClause_22 (i := 0) rfl 0 rfl ?_
    refine wp_getI d_M_readClause_23 fl_M_211 cl_9 rfl (ly_o hly (by decide)) ?_
    obtain ⟨ho, h⟩ := h
    refine wp_imul d_M_readClause_26 ho ?_
    refine wp_aload_n d_M_readClause_27 (i := 0) rfl 0 rfl ?_
    refine wp_getP d_M_readClause_28 fl_M_38 cl_9 rfl (ly_o hly (by decide)) (ly_r (v := 88) hly (by decide +kernel)) ?_
    refine wp_aload_n d_M_readClause_31 (i := 0) rfl 0 rfl ?_
    refine wp_getI d_M_readClause_32 fl_M_211 cl_9 rfl (ly_o hly (by decide)) ?_
    obtain ⟨hi2, h⟩ := h
    refine wp_iaload d_M_readClause_35 (ly_a (n := 2) (N := 2) hly (by decide) hi2) ?_
    obtain ⟨ho, h⟩ := h
    refine wp_iadd d_M_readClause_36 ho ?_
    refine wp_callV (A := [vi ((30 * (gI w 78 37)) + (gI w 88 (gI w 78 37).toNat))]) (S := []) d_M_readClause_37 cv_M_readClause_277 (ly_o hly (by decide)) rfl (Nat.le_of_ble_eq_true rfl) (by decide) (MetS.mono h (fun r w3 hh => ?_))
    obtain ⟨er, h⟩ := hh
    subst er
    refine wp_ly (fun hly => ?_)
    refine wp_aload_n d_M_readClause_40 (i := 0) rfl 0 rfl ?_
    refine wp_getP d_M_readClause_41 fl_M_16 cl_9 rfl (ly_o hly (by decide)) (ly_r (v := 81) hly (by decide +kernel)) ?_
    refine wp_aload_n d_M_readClause_44 (i := 0) rfl 0 rfl ?_
    refine wp_getI d_M_readClause_45 fl_M_180 cl_9 rfl (ly_o hly (by decide)) ?_
    obtain ⟨hi4, h⟩ := h
    refine wp_iaload d_M_readClause_48 (ly_a (n := 602) (N := 602) hly (by decide) hi4) ?_
    refine wp_istore_n (L' := [(1, vi (gI w3 81 (gI w3 78 10).toNat)), (0, vr 78)]) d_M_readClause_49 (i := 1) rfl rfl (by decide) ?_
    refine wp_aload_n d_M_readClause_50 (i := 0) rfl 1 rfl ?_
    refine wp_iconst d_M_readClause_51 (by decide) ?_
    refine wp_iconst d_M_readClause_52 (by decide) ?_
    refine wp_callV (A := [vi 1, vi 0]) (S := []) d_M_readClause_53 cv_M_readClause_253 (ly_o hly (by decide)) rfl (Nat.le_of_ble_eq_true rfl) (by decide) (MetS.mono h (fun r w5 hh => ?_))
    obtain ⟨z6, er, h⟩ := hh
    subst er
    refine wp_ly (fun hly => ?_)
    refine wp_if_ne (tgt := 61) d_M_readClause_56 (by decide) (fun hc => ?_) (fun hc => ?_)
    · replace h := h.1 hc
      refine wp_aload_n d_M_readClause_61 (i := 0) rfl 1 rfl ?_
      refine wp_callV (A := []) (S := []) d_M_readClause_62 cv_M_readClause_281 (ly_o hly (by decide)) rfl (Nat.le_of_ble_eq_true rfl) (by decide) (MetS.mono h (fun r w7 hh => ?_))
      obtain ⟨er, h⟩ := hh
      subst er
      refine wp_ly (fun hly => ?_)
      refine wp_aload_n d_M_readClause_65 (i := 0) rfl 1 rfl ?_
      refine wp_bipush d_M_readClause_66 (by decide) (by decide) ?_
      refine wp_callV (A := [vi 46]) (S := []) d_M_readClause_68 cv_M_readClause_189 (ly_o hly (by decide)) rfl (Nat.le_of_ble_eq_true rfl) (by decide) (MetS.mono h (fun r w8 hh => ?_))
      obtain ⟨z9, er, h⟩ := hh
      subst er
      refine wp_ly (fun hly => ?_)
      refine wp_if_eq (tgt := 105) d_M_readClause_71 (by decide) (fun hc => ?_) (fun hc => ?_)
      · replace h := h.1 hc
        refine wp_aload_n d_M_readClause_105 (i := 0) rfl 1 rfl ?_
        refine wp_sipush d_M_readClause_106 (by decide) (by decide) ?_
        refine wp_callV (A := [vi 300]) (S := []) d_M_readClause_109 cv_M_readClause_186 (ly_o hly (by decide)) rfl (Nat.le_of_ble_eq_true rfl) (by decide) (MetS.mono h (fun r w10 hh => ?_))
        obtain ⟨z11, er, h⟩ := hh
        subst er
        refine wp_ly (fun hly => ?_)
        refine wp_if_ne (tgt := 120) d_M_readClause_112 (by decide) (fun hc => ?_) (fun hc => ?_)
        · replace h := h.1 hc
          refine wp_aload_n d_M_readClause_120 (i := 0) rfl 1 rfl ?_
          refine wp_getP d_M_readClause_121 fl_M_38 cl_9 rfl (ly_o hly (by decide)) (ly_r (v := 88) hly (by decide +kernel)) ?_
          refine wp_aload_n d_M_readClause_124 (i := 0) rfl 1 rfl ?_
          refine wp_getI d_M_readClause_125 fl_M_211 cl_9 rfl (ly_o hly (by decide)) ?_
          obtain ⟨hi12, h⟩ := h
          refine wp_iaload d_M_readClause_128 (ly_a (n := 2) (N := 2) hly (by decide) hi12) ?_
          refine wp_bipush d_M_readClause_129 (by decide) (by decide) ?_
          refine wp_icmp_ne (tgt := 140) d_M_readClause_131 (by decide) (fun hc => ?_) (fun hc => ?_)
          · replace h := h.1 hc
            refine wp_aload_n d_M_readClause_140 (i := 0) rfl 1 rfl ?_
            refine wp_dup d_M_readClause_141 rfl ?_
            refine wp_getI d_M_readClause_142 fl_M_180 cl_9 rfl (ly_o hly (by decide)) ?_
            refine wp_iconst d_M_readClause_145 (by decide) ?_
            obtain ⟨ho, h⟩ := h
            refine wp_iadd d_M_readClause_146 ho ?_
            refine wp_putI d_M_readClause_147 fl_M_180 cl_9 ⟨rfl, rfl⟩ (ly_o hly (by decide)) (fun w13 e14 => ?_)
            replace h := h w13 e14
            refine wp_ly (fun hly => ?_)
            refine wp_aload_n d_M_readClause_150 (i := 0) rfl 1 rfl ?_
            refine wp_callV (A := []) (S := []) d_M_readClause_151 cv_M_readClause_290 (ly_o hly (by decide)) rfl (Nat.le_of_ble_eq_true rfl) (by decide) (MetS.mono h (fun r w15 hh => ?_))
            obtain ⟨z16, er, h⟩ := hh
            subst er
            refine wp_ly (fun hly => ?_)
            refine wp_if_eq (tgt := 166) d_M_readClause_154 (by decide) (fun hc => ?_) (fun hc => ?_)
            · replace h := h.1 hc
              refine wp_iconst d_M_readClause_166 (by decide) ?_
              exact wp_zret d_M_readClause_167 rfl (by decide) (by decide) h
            · replace h := h.2 hc
              refine wp_aload_n d_M_readClause_157 (i := 0) rfl 1 rfl ?_
              refine wp_bipush d_M_readClause_158 (by decide) (by decide) ?_
              refine wp_callV (A := [vi 46]) (S := []) d_M_readClause_160 cv_M_readClause_225 (ly_o hly (by decide)) rfl (Nat.le_of_ble_eq_true rfl) (by decide) (MetS.mono h (fun r w17 hh => ?_))
              obtain ⟨z18, er, h⟩ := hh
              subst er
              refine wp_ly (fun hly => ?_)
              refine wp_if_ne (tgt := 168) d_M_readClause_163 (by decide) (fun hc => ?_) (fun hc => ?_)
              · replace h := h.1 hc
                refine wp_aload_n d_M_readClause_168 (i := 0) rfl 1 rfl ?_
                refine wp_callV (A := []) (S := []) d_M_readClause_169 cv_M_readClause_293 (ly_o hly (by decide)) rfl (Nat.le_of_ble_eq_true rfl) (by decide) (MetS.mono h (fun r w19 hh => ?_))
                obtain ⟨er, h⟩ := hh
                subst er
                refine wp_ly (fun hly => ?_)
                refine wp_aload_n d_M_readClause_172 (i := 0) rfl 1 rfl ?_
                refine wp_getP d_M_readClause_173 fl_M_38 cl_9 rfl (ly_o hly (by decide)) (ly_r (v := 88) hly (by decide +kernel)) ?_
                refine wp_aload_n d_M_readClause_176 (i := 0) rfl 1 rfl ?_
                refine wp_getI d_M_readClause_177 fl_M_211 cl_9 rfl (ly_o hly (by decide)) ?_
                refine wp_dup2 d_M_readClause_180 rfl rfl ?_
                obtain ⟨hi20, h⟩ := h
                refine wp_iaload d_M_readClause_181 (ly_a (n := 2) (N := 2) hly (by decide) hi20) ?_
                refine wp_iconst d_M_readClause_182 (by decide) ?_
                obtain ⟨ho, h⟩ := h
                refine wp_iadd d_M_readClause_183 ho ?_
                obtain ⟨hi21, h⟩ := h
                refine wp_iastore d_M_readClause_184 (ly_a (n := 2) (N := 2) hly (by decide) hi21) (fun w22 e23 => ?_)
                replace h := h w22 e23
                refine wp_ly (fun hly => ?_)
                refine wp_iconst d_M_readClause_185 (by decide) ?_
                exact wp_zret d_M_readClause_186 rfl (by decide) (by decide) h
              · replace h := h.2 hc
                refine wp_iconst d_M_readClause_166 (by decide) ?_
                exact wp_zret d_M_readClause_167 rfl (by decide) (by decide) h
          · replace h := h.2 hc
            refine wp_aload_n d_M_readClause_134 (i := 0) rfl 1 rfl ?_
            refine wp_iload_n d_M_readClause_135 (i := 1) rfl 0 rfl ?_
            refine wp_callV (A := [vi (gI w3 81 (gI w3 78 10).toNat)]) (S := []) d_M_readClause_136 cv_M_readClause_183 (ly_o hly (by decide)) rfl (Nat.le_of_ble_eq_true rfl) (by decide) (MetS.mono h (fun r w24 hh => ?_))
            obtain ⟨z25, er, h⟩ := hh
            subst er
            refine wp_ly (fun hly => ?_)
            exact wp_zret d_M_readClause_139 rfl (by decide) h.1 h.2
        · replace h := h.2 hc
          refine wp_aload_n d_M_readClause_115 (i := 0) rfl 1 rfl ?_
          refine wp_callV (A := []) (S := []) d_M_readClause_116 cv_M_readClause_192 (ly_o hly (by decide)) rfl (Nat.le_of_ble_eq_true rfl) (by decide) (MetS.mono h (fun r w26 hh => ?_))
          obtain ⟨z27, er, h⟩ := hh
          subst er
          refine wp_ly (fun hly => ?_)
          exact wp_zret d_M_readClause_119 rfl (by decide) h.1 h.2
      · replace h := h.2 hc
        refine wp_aload_n d_M_readClause_74 (i := 0) rfl 1 rfl ?_
        refine wp_getI d_M_readClause_75 fl_M_237 cl_9 rfl (ly_o hly (by decide)) ?_
        refine wp_iconst d_M_readClause_78 (by decide) ?_
        refine wp_icmp_eq (tgt := 91) d_M_readClause_79 (by decide) (fun hc => ?_) (fun hc => ?_)
        · replace h := h.1 hc
          refine wp_aload_n d_M_readClause_91 (i := 0) rfl 1 rfl ?_
          refine wp_callV (A := []) (S := []) d_M_readClause_92 cv_M_readClause_284 (ly_o hly (by decide)) rfl (Nat.le_of_ble_eq_true rfl) (by decide) (MetS.mono h (fun r w28 hh => ?_))
          obtain ⟨z29, er, h⟩ := hh
          subst er
          refine wp_ly (fun hly => ?_)
          refine wp_iconst d_M_readClause_95 (by decide) ?_
          refine wp_icmp_ne (tgt := 103) d_M_readClause_96 (by decide) (fun hc => ?_) (fun hc => ?_)
          · replace h := h.1 hc
            refine wp_iconst d_M_readClause_103 (by decide) ?_
            exact wp_zret d_M_readClause_104 rfl (by decide) (by decide) h
          · replace h := h.2 hc
            refine wp_aload_n d_M_readClause_99 (i := 0) rfl 1 rfl ?_
            refine wp_callV (A := []) (S := []) d_M_readClause_100 cv_M_readClause_287 (ly_o hly (by decide)) rfl (Nat.le_of_ble_eq_true rfl) (by decide) (MetS.mono h (fun r w30 hh => ?_))
            obtain ⟨er, h⟩ := hh
            subst er
            refine wp_ly (fun hly => ?_)
            refine wp_iconst d_M_readClause_103 (by decide) ?_
            exact wp_zret d_M_readClause_104 rfl (by decide) (by decide) h
        · replace h := h.2 hc
          refine wp_aload_n d_M_readClause_82 (i := 0) rfl 1 rfl ?_
          refine wp_aload_n d_M_readClause_83 (i := 0) rfl 1 rfl ?_
          refine wp_getI d_M_readClause_84 fl_M_237 cl_9 rfl (ly_o hly (by decide)) ?_
          refine wp_callV (A := [vi (gI w8 78 41)]) (S := []) d_M_readClause_87 cv_M_readClause_183 (ly_o hly (by decide)) rfl (Nat.le_of_ble_eq_true rfl) (by decide) (MetS.mono h (fun r w31 hh => ?_))
          obtain ⟨z32, er, h⟩ := hh
          subst er
          refine wp_ly (fun hly => ?_)
          exact wp_zret d_M_readClause_90 rfl (by decide) h.1 h.2
    · replace h := h.2 hc
      refine wp_iconst d_M_readClause_59 (by decide) ?_
      exact wp_zret d_M_readClause_60 rfl (by decide) (by decide) h
  · replace h := h.2 hc
    refine wp_bipush d_M_readClause_15 (by decide) (by decide) ?_
    refine wp_goto (tgt := 37) d_M_readClause_17 (by decide) ?_
    refine wp_callV (A := [vi 60]) (S := []) d_M_readClause_37 cv_M_readClause_277 (ly_o hly (by decide)) rfl (Nat.le_of_ble_eq_true rfl) (by decide) (MetS.mono h (fun r w33 hh => ?_))
    obtain ⟨er, h⟩ := hh
    subst er
    refine wp_ly (fun hly => ?_)
    refine wp_aload_n d_M_readClause_40 (i := 0) rfl 0 rfl ?_
    refine wp_getP d_M_readClause_41 fl_M_16 cl_9 rfl (ly_o hly (by decide)) (ly_r (v := 81) hly (by decide +kernel)) ?_
    refine wp_aload_n d_M_readClause_44 (i := 0) rfl 0 rfl ?_
    refine wp_getI d_M_readClause_45 fl_M_180 cl_9 rfl (ly_o hly (by decide)) ?_
    obtain ⟨hi34, h⟩ := h
    refine wp_iaload d_M_readClause_48 (ly_a (n := 602) (N := 602) hly (by decide) hi34) ?_
    refine wp_istore_n (L' := [(1, vi (gI w33 81 (gI w33 78 10).toNat)), (0, vr 78)]) d_M_readClause_49 (i := 1) rfl rfl (by decide) ?_
    refine wp_aload_n d_M_readClause_50 (i := 0) rfl 1 rfl ?_
    refine wp_iconst d_M_readClause_51 (by decide) ?_
    refine wp_iconst d_M_readClause_52 (by decide) ?_
    refine wp_callV (A := [vi 1, vi 0]) (S := []) d_M_readClause_53 cv_M_readClause_253 (ly_o hly (by decide)) rfl (Nat.le_of_ble_eq_true rfl) (by decide) (MetS.mono h (fun r w35 hh => ?_))
    obtain ⟨z36, er, h⟩ := hh
    subst er
    refine wp_ly (fun hly => ?_)
    refine wp_if_ne (tgt := 61) d_M_readClause_56 (by decide) (fun hc => ?_) (fun hc => ?_)
    · replace h := h.1 hc
      refine wp_aload_n d_M_readClause_61 (i := 0) rfl 1 rfl ?_
      refine wp_callV (A := []) (S := []) d_M_readClause_62 cv_M_readClause_281 (ly_o hly (by decide)) rfl (Nat.le_of_ble_eq_true rfl) (by decide) (MetS.mono h (fun r w37 hh => ?_))
      obtain ⟨er, h⟩ := hh
      subst er
      refine wp_ly (fun hly => ?_)
      refine wp_aload_n d_M_readClause_65 (i := 0) rfl 1 rfl ?_
      refine wp_bipush d_M_readClause_66 (by decide) (by decide) ?_
      refine wp_callV (A := [vi 46]) (S := []) d_M_readClause_68 cv_M_readClause_189 (ly_o hly (by decide)) rfl (Nat.le_of_ble_eq_true rfl) (by decide) (MetS.mono h (fun r w38 hh => ?_))
      obtain ⟨z39, er, h⟩ := hh
      subst er
      refine wp_ly (fun hly => ?_)
      refine wp_if_eq (tgt := 105) d_M_readClause_71 (by decide) (fun hc => ?_) (fun hc => ?_)
      · replace h := h.1 hc
        refine wp_aload_n d_M_readClause_105 (i := 0) rfl 1 rfl ?_
        refine wp_sipush d_M_readClause_106 (by decide) (by decide) ?_
        refine wp_callV (A := [vi 300]) (S := []) d_M_readClause_109 cv_M_readClause_186 (ly_o hly (by decide)) rfl (Nat.le_of_ble_eq_true rfl) (by decide) (MetS.mono h (fun r w40 hh => ?_))
        obtain ⟨z41, er, h⟩ := hh
        subst er
        refine wp_ly (fun hly => ?_)
        refine wp_if_ne (tgt := 120) d_M_readClause_112 (by decide) (fun hc => ?_) (fun hc => ?_)
        · replace h := h.1 hc
          refine wp_aload_n d_M_readClause_120 (i := 0) rfl 1 rfl ?_
          refine wp_getP d_M_readClause_121 fl_M_38 cl_9 rfl (ly_o hly (by decide)) (ly_r (v := 88) hly (by decide +kernel)) ?_
          refine wp_aload_n d_M_readClause_124 (i := 0) rfl 1 rfl ?_
          refine wp_getI d_M_readClause_125 fl_M_211 cl_9 rfl (ly_o hly (by decide)) ?_
          obtain ⟨hi42, h⟩ := h
          refine wp_iaload d_M_readClause_128 (ly_a (n := 2) (N := 2) hly (by decide) hi42) ?_
          refine wp_bipush d_M_readClause_129 (by decide) (by decide) ?_
          refine wp_icmp_ne (tgt := 140) d_M_readClause_131 (by decide) (fun hc => ?_) (fun hc => ?_)
          · replace h := h.1 hc
            refine wp_aload_n d_M_readClause_140 (i := 0) rfl 1 rfl ?_
            refine wp_dup d_M_readClause_141 rfl ?_
            refine wp_getI d_M_readClause_142 fl_M_180 cl_9 rfl (ly_o hly (by decide)) ?_
            refine wp_iconst d_M_readClause_145 (by decide) ?_
            obtain ⟨ho, h⟩ := h
            refine wp_iadd d_M_readClause_146 ho ?_
            refine wp_putI d_M_readClause_147 fl_M_180 cl_9 ⟨rfl, rfl⟩ (ly_o hly (by decide)) (fun w43 e44 => ?_)
            replace h := h w43 e44
            refine wp_ly (fun hly => ?_)
            refine wp_aload_n d_M_readClause_150 (i := 0) rfl 1 rfl ?_
            refine wp_callV (A := []) (S := []) d_M_readClause_151 cv_M_readClause_290 (ly_o hly (by decide)) rfl (Nat.le_of_ble_eq_true rfl) (by decide) (MetS.mono h (fun r w45 hh => ?_))
            obtain ⟨z46, er, h⟩ := hh
            subst er
            refine wp_ly (fun hly => ?_)
            refine wp_if_eq (tgt := 166) d_M_readClause_154 (by decide) (fun hc => ?_) (fun hc => ?_)
            · replace h := h.1 hc
              refine wp_iconst d_M_readClause_166 (by decide) ?_
              exact wp_zret d_M_readClause_167 rfl (by decide) (by decide) h
            · replace h := h.2 hc
              refine wp_aload_n d_M_readClause_157 (i := 0) rfl 1 rfl ?_
              refine wp_bipush d_M_readClause_158 (by decide) (by decide) ?_
              refine wp_callV (A := [vi 46]) (S := []) d_M_readClause_160 cv_M_readClause_225 (ly_o hly (by decide)) rfl (Nat.le_of_ble_eq_true rfl) (by decide) (MetS.mono h (fun r w47 hh => ?_))
              obtain ⟨z48, er, h⟩ := hh
              subst er
              refine wp_ly (fun hly => ?_)
              refine wp_if_ne (tgt := 168) d_M_readClause_163 (by decide) (fun hc => ?_) (fun hc => ?_)
              · replace h := h.1 hc
                refine wp_aload_n d_M_readClause_168 (i := 0) rfl 1 rfl ?_
                refine wp_callV (A := []) (S := []) d_M_readClause_169 cv_M_readClause_293 (ly_o hly (by decide)) rfl (Nat.le_of_ble_eq_true rfl) (by decide) (MetS.mono h (fun r w49 hh => ?_))
                obtain ⟨er, h⟩ := hh
                subst er
                refine wp_ly (fun hly => ?_)
                refine wp_aload_n d_M_readClause_172 (i := 0) rfl 1 rfl ?_
                refine wp_getP d_M_readClause_173 fl_M_38 cl_9 rfl (ly_o hly (by decide)) (ly_r (v := 88) hly (by decide +kernel)) ?_
                refine wp_aload_n d_M_readClause_176 (i := 0) rfl 1 rfl ?_
                refine wp_getI d_M_readClause_177 fl_M_211 cl_9 rfl (ly_o hly (by decide)) ?_
                refine wp_dup2 d_M_readClause_180 rfl rfl ?_
                obtain ⟨hi50, h⟩ := h
                refine wp_iaload d_M_readClause_181 (ly_a (n := 2) (N := 2) hly (by decide) hi50) ?_
                refine wp_iconst d_M_readClause_182 (by decide) ?_
                obtain ⟨ho, h⟩ := h
                refine wp_iadd d_M_readClause_183 ho ?_
                obtain ⟨hi51, h⟩ := h
                refine wp_iastore d_M_readClause_184 (ly_a (n := 2) (N := 2) hly (by decide) hi51) (fun w52 e53 => ?_)
                replace h := h w52 e53
                refine wp_ly (fun hly => ?_)
                refine wp_iconst d_M_readClause_185 (by decide) ?_
                exact wp_zret d_M_readClause_186 rfl (by decide) (by decide) h
              · replace h := h.2 hc
                refine wp_iconst d_M_readClause_166 (by decide) ?_
                exact wp_zret d_M_readClause_167 rfl (by decide) (by decide) h
          · replace h := h.2 hc
            refine wp_aload_n d_M_readClause_134 (i := 0) rfl 1 rfl ?_
            refine wp_iload_n d_M_readClause_135 (i := 1) rfl 0 rfl ?_
            refine wp_callV (A := [vi (gI w33 81 (gI w33 78 10).toNat)]) (S := []) d_M_readClause_136 cv_M_readClause_183 (ly_o hly (by decide)) rfl (Nat.le_of_ble_eq_true rfl) (by decide) (MetS.mono h (fun r w54 hh => ?_))
            obtain ⟨z55, er, h⟩ := hh
            subst er
            refine wp_ly (fun hly => ?_)
            exact wp_zret d_M_readClause_139 rfl (by decide) h.1 h.2
        · replace h := h.2 hc
          refine wp_aload_n d_M_readClause_115 (i := 0) rfl 1 rfl ?_
          refine wp_callV (A := []) (S := []) d_M_readClause_116 cv_M_readClause_192 (ly_o hly (by decide)) rfl (Nat.le_of_ble_eq_true rfl) (by decide) (MetS.mono h (fun r w56 hh => ?_))
          obtain ⟨z57, er, h⟩ := hh
          subst er
          refine wp_ly (fun hly => ?_)
          exact wp_zret d_M_readClause_119 rfl (by decide) h.1 h.2
      · replace h := h.2 hc
        refine wp_aload_n d_M_readClause_74 (i := 0) rfl 1 rfl ?_
        refine wp_getI d_M_readClause_75 fl_M_237 cl_9 rfl (ly_o hly (by decide)) ?_
        refine wp_iconst d_M_readClause_78 (by decide) ?_
        refine wp_icmp_eq (tgt := 91) d_M_readClause_79 (by decide) (fun hc => ?_) (fun hc => ?_)
        · replace h := h.1 hc
          refine wp_aload_n d_M_readClause_91 (i := 0) rfl 1 rfl ?_
          refine wp_callV (A := []) (S := []) d_M_readClause_92 cv_M_readClause_284 (ly_o hly (by decide)) rfl (Nat.le_of_ble_eq_true rfl) (by decide) (MetS.mono h (fun r w58 hh => ?_))
          obtain ⟨z59, er, h⟩ := hh
          subst er
          refine wp_ly (fun hly => ?_)
          refine wp_iconst d_M_readClause_95 (by decide) ?_
          refine wp_icmp_ne (tgt := 103) d_M_readClause_96 (by decide) (fun hc => ?_) (fun hc => ?_)
          · replace h := h.1 hc
            refine wp_iconst d_M_readClause_103 (by decide) ?_
            exact wp_zret d_M_readClause_104 rfl (by decide) (by decide) h
          · replace h := h.2 hc
            refine wp_aload_n d_M_readClause_99 (i := 0) rfl 1 rfl ?_
            refine wp_callV (A := []) (S := []) d_M_readClause_100 cv_M_readClause_287 (ly_o hly (by decide)) rfl (Nat.le_of_ble_eq_true rfl) (by decide) (MetS.mono h (fun r w60 hh => ?_))
            obtain ⟨er, h⟩ := hh
            subst er
            refine wp_ly (fun hly => ?_)
            refine wp_iconst d_M_readClause_103 (by decide) ?_
            exact wp_zret d_M_readClause_104 rfl (by decide) (by decide) h
        · replace h := h.2 hc
          refine wp_aload_n d_M_readClause_82 (i := 0) rfl 1 rfl ?_
          refine wp_aload_n d_M_readClause_83 (i := 0) rfl 1 rfl ?_
          refine wp_getI d_M_readClause_84 fl_M_237 cl_9 rfl (ly_o hly (by decide)) ?_
          refine wp_callV (A := [vi (gI w38 78 41)]) (S := []) d_M_readClause_87 cv_M_readClause_183 (ly_o hly (by decide)) rfl (Nat.le_of_ble_eq_true rfl) (by decide) (MetS.mono h (fun r w61 hh => ?_))
          obtain ⟨z62, er, h⟩ := hh
          subst er
          refine wp_ly (fun hly => ?_)
          exact wp_zret d_M_readClause_90 rfl (by decide) h.1 h.2
    · replace h := h.2 hc
      refine wp_iconst d_M_readClause_59 (by decide) ?_
      exact wp_zret d_M_readClause_60 rfl (by decide) (by decide) h
set_option maxRecDepth 20000 in
set_option maxHeartbeats 2000000 in
theorem t_M_isAtom_0 {x1 : Int}  {w : Wo} {Q : Option AV → Wo → Prop} (h : (0 ≤ x1 ∧ x1 < 366) ∧ (((gI w 96 x1.toNat) = 0 → Q (some (vi 1)) w) ∧ (¬ (gI w 96 x1.toNat) = 0 → (0 ≤ x1 ∧ x1 < 366) ∧ ((¬ (gI w 96 x1.toNat) = 1 → Q (some (vi 0)) w) ∧ ((gI w 96 x1.toNat) = 1 → Q (some (vi 1)) w))))) : Wp m_M_isAtom 0 [(0, vr 78), (1, vi x1)] [] (0, 0) w Q := by
  refine wp_ly (fun hly => ?_)
  refine wp_aload_n d_M_isAtom_0 (i := 0) rfl 0 rfl ?_
  refine wp_getP d_M_isAtom_1 fl_M_62 cl_9 rfl (ly_o hly (by decide)) (ly_r (v := 96) hly (by decide +kernel)) ?_
  refine wp_iload_n d_M_isAtom_4 (i := 1) rfl 1 rfl ?_
  obtain ⟨hi1, h⟩ := h
  refine wp_iaload d_M_isAtom_5 (ly_a (n := 366) (N := 366) hly (by decide) hi1) ?_
  refine wp_if_eq (tgt := 19) d_M_isAtom_6 (by decide) (fun hc => ?_) (fun hc => ?_)
  · replace h := h.1 hc
    refine wp_iconst d_M_isAtom_19 (by decide) ?_
    refine wp_goto (tgt := 24) d_M_isAtom_20 (by decide) ?_
    exact wp_zret d_M_isAtom_24 rfl (by decide) (by decide) h
  · replace h := h.2 hc
    refine wp_aload_n d_M_isAtom_9 (i := 0) rfl 0 rfl ?_
    refine wp_getP d_M_isAtom_10 fl_M_62 cl_9 rfl (ly_o hly (by decide)) (ly_r (v := 96) hly (by decide +kernel)) ?_
    refine wp_iload_n d_M_isAtom_13 (i := 1) rfl 1 rfl ?_
    obtain ⟨hi2, h⟩ := h
    refine wp_iaload d_M_isAtom_14 (ly_a (n := 366) (N := 366) hly (by decide) hi2) ?_
    refine wp_iconst d_M_isAtom_15 (by decide) ?_
    refine wp_icmp_ne (tgt := 23) d_M_isAtom_16 (by decide) (fun hc => ?_) (fun hc => ?_)
    · replace h := h.1 hc
      refine wp_iconst d_M_isAtom_23 (by decide) ?_
      exact wp_zret d_M_isAtom_24 rfl (by decide) (by decide) h
    · replace h := h.2 hc
      refine wp_iconst d_M_isAtom_19 (by decide) ?_
      refine wp_goto (tgt := 24) d_M_isAtom_20 (by decide) ?_
      exact wp_zret d_M_isAtom_24 rfl (by decide) (by decide) h
set_option maxRecDepth 20000 in
set_option maxHeartbeats 2000000 in
theorem t_M_lookHangs_0   {w : Wo} {Q : Option AV → Wo → Prop} (h : Wp m_M_lookHangs 2 [(0, vr 78), (1, vi 0)] [] (0, 0) w Q) : Wp m_M_lookHangs 0 [(0, vr 78)] [] (0, 0) w Q := by
  refine wp_ly (fun hly => ?_)
  refine wp_iconst d_M_lookHangs_0 (by decide) ?_
  refine wp_istore_n (L' := [(1, vi 0), (0, vr 78)]) d_M_lookHangs_1 (i := 1) rfl rfl (by decide) ?_
  exact wp_pick [1, 0] rfl h
set_option maxRecDepth 20000 in
set_option maxHeartbeats 2000000 in
theorem t_M_lookHangs_2 {x1 : Int}  {w : Wo} {Q : Option AV → Wo → Prop} (h : ((256 ≤ x1 → inr32 (30 * (gI w 78 37)) ∧ Wp m_M_lookHangs 30 [(0, vr 78), (1, vi (30 * (gI w 78 37)))] [] (0, 0) w Q) ∧ (¬ 256 ≤ x1 → (0 ≤ x1 ∧ x1 < 256) ∧ (∀ w2 : Wo, w2 = uI w 111 x1.toNat 0 → inr32 (x1 + 1) ∧ Wp m_M_lookHangs 2 [(0, vr 78), (1, vi (x1 + 1))] [] (0, 0) w2 Q)))) : Wp m_M_lookHangs 2 [(0, vr 78), (1, vi x1)] [] (0, 0) w Q := by
  refine wp_ly (fun hly => ?_)
  refine wp_iload_n d_M_lookHangs_2 (i := 1) rfl 1 rfl ?_
  refine wp_sipush d_M_lookHangs_3 (by decide) (by decide) ?_
  refine wp_icmp_ge (tgt := 22) d_M_lookHangs_6 (by decide) (fun hc => ?_) (fun hc => ?_)
  · replace h := h.1 hc
    refine wp_bipush d_M_lookHangs_22 (by decide) (by decide) ?_
    refine wp_aload_n d_M_lookHangs_24 (i := 0) rfl 0 rfl ?_
    refine wp_getI d_M_lookHangs_25 fl_M_211 cl_9 rfl (ly_o hly (by decide)) ?_
    obtain ⟨ho, h⟩ := h
    refine wp_imul d_M_lookHangs_28 ho ?_
    refine wp_istore_n (L' := [(1, vi (30 * (gI w 78 37))), (0, vr 78)]) d_M_lookHangs_29 (i := 1) rfl rfl (by decide) ?_
    exact wp_pick [1, 0] rfl h
  · replace h := h.2 hc
    refine wp_aload_n d_M_lookHangs_9 (i := 0) rfl 0 rfl ?_
    refine wp_getP d_M_lookHangs_10 fl_M_108 cl_9 rfl (ly_o hly (by decide)) (ly_r (v := 111) hly (by decide +kernel)) ?_
    refine wp_iload_n d_M_lookHangs_13 (i := 1) rfl 1 rfl ?_
    refine wp_iconst d_M_lookHangs_14 (by decide) ?_
    obtain ⟨hi1, h⟩ := h
    refine wp_zastore d_M_lookHangs_15 (ly_a (n := 256) (N := 256) hly (by decide) hi1) (by decide) (fun w2 e3 => ?_)
    replace h := h w2 e3
    refine wp_ly (fun hly => ?_)
    obtain ⟨ho, h⟩ := h
    refine wp_iinc (L' := [(1, vi (x1 + 1)), (0, vr 78)]) d_M_lookHangs_16 1 rfl rfl (by decide) ho ?_
    refine wp_goto (tgt := 2) d_M_lookHangs_19 (by decide) ?_
    exact wp_pick [1, 0] rfl h
set_option maxRecDepth 20000 in
set_option maxHeartbeats 2000000 in
theorem t_M_lookHangs_30 {x1 : Int}  {w : Wo} {Q : Option AV → Wo → Prop} (h : inr32 (30 * (gI w 78 37)) ∧ (0 ≤ (gI w 78 37) ∧ (gI w 78 37) < 2) ∧ inr32 ((30 * (gI w 78 37)) + (gI w 88 (gI w 78 37).toNat)) ∧ ((((30 * (gI w 78 37)) + (gI w 88 (gI w 78 37).toNat)) ≤ x1 → Wp m_M_lookHangs 115 [(0, vr 78), (1, vi 0)] [] (0, 0) w Q) ∧ (¬ ((30 * (gI w 78 37)) + (gI w 88 (gI w 78 37).toNat)) ≤ x1 → inr32 (6 * x1) ∧ Wp m_M_lookHangs 56 [(0, vr 78), (1, vi x1), (2, vi (6 * x1))] [] (0, 0) w Q))) : Wp m_M_lookHangs 30 [(0, vr 78), (1, vi x1)] [] (0, 0) w Q := by
  refine wp_ly (fun hly => ?_)
  refine wp_iload_n d_M_lookHangs_30 (i := 1) rfl 1 rfl ?_
  refine wp_bipush d_M_lookHangs_31 (by decide) (by decide) ?_
  refine wp_aload_n d_M_lookHangs_33 (i := 0) rfl 0 rfl ?_
  refine wp_getI d_M_lookHangs_34 fl_M_211 cl_9 rfl (ly_o hly (by decide)) ?_
  obtain ⟨ho, h⟩ := h
  refine wp_imul d_M_lookHangs_37 ho ?_
  refine wp_aload_n d_M_lookHangs_38 (i := 0) rfl 0 rfl ?_
  refine wp_getP d_M_lookHangs_39 fl_M_38 cl_9 rfl (ly_o hly (by decide)) (ly_r (v := 88) hly (by decide +kernel)) ?_
  refine wp_aload_n d_M_lookHangs_42 (i := 0) rfl 0 rfl ?_
  refine wp_getI d_M_lookHangs_43 fl_M_211 cl_9 rfl (ly_o hly (by decide)) ?_
  obtain ⟨hi1, h⟩ := h
  refine wp_iaload d_M_lookHangs_46 (ly_a (n := 2) (N := 2) hly (by decide) hi1) ?_
  obtain ⟨ho, h⟩ := h
  refine wp_iadd d_M_lookHangs_47 ho ?_
  refine wp_icmp_ge (tgt := 113) d_M_lookHangs_48 (by decide) (fun hc => ?_) (fun hc => ?_)
  · replace h := h.1 hc
    refine wp_iconst d_M_lookHangs_113 (by decide) ?_
    refine wp_istore_n (L' := [(1, vi 0), (0, vr 78)]) d_M_lookHangs_114 (i := 1) rfl rfl (by decide) ?_
    exact wp_pick [1, 0] rfl h
  · replace h := h.2 hc
    refine wp_bipush d_M_lookHangs_51 (by decide) (by decide) ?_
    refine wp_iload_n d_M_lookHangs_53 (i := 1) rfl 1 rfl ?_
    obtain ⟨ho, h⟩ := h
    refine wp_imul d_M_lookHangs_54 ho ?_
    refine wp_istore_n (L' := [(2, vi (6 * x1)), (0, vr 78), (1, vi x1)]) d_M_lookHangs_55 (i := 2) rfl rfl (by decide) ?_
    exact wp_pick [1, 2, 0] rfl h
