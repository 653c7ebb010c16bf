noncomputable section
set_option maxRecDepth 100000 in
set_option maxHeartbeats 4000000 in
theorem law_loop {K : KT} {mn : String} {tb : List ExceptionTableEntry} {w0 : Cond} {h0 : fH} (X : JX K mn "NightValleyLaw" cL_law 15 (some .boolean) tb w0 room_1 h0 (fun v _ => v = some (.int 1)) noX) {b L : Nat} {xs : Nat → Int32} (hXs : va_X b L xs (ks K) (ks K).heap) (hbl : b < (ks K).heap.size) (hbA : ¬ kA K b) (hLn : L ≤ 260) {r : Nat} {α : Nat → Nat} : ∀ (n i : Nat) (hx h : fH) (ξ σ : St), i + n = 60 → LH (kca K) hx h α σ → RA (kca K) hx r ξ → InvX ξ → InvO ξ → LQ ξ σ → AG σ → ix (ξ 0 0) ≤ 300 * i → J K h [some (.ref b), some (.ref r), some (.ref (α 0)), some (.ref (α 1)), some (.ref (α 2)), some (.ref (α 3)), some (.ref (α 4)), some (.ref (α 5)), some (.ref (α 6)), some (.ref (α 7)), some (.int (1 : Int32)), some (.int (nI i)), none, none, none] [] 191 (190 + i * 1008) (11797 + i * 6148) := by
  intro n
  induction n with
  | zero =>
    intro i hx h ξ σ hi hL hX hI hO hQ hA ht
    refine J_iload_11 X dL_law_191 ?_
    refine J_bipush (v := (60 : Int32)) X dL_law_193 (by decide) ?_
    refine J_icmp_ge (tgt := 568) X dL_law_195 (by decide) (fun _ => ?_) (fun c => absurd (lp_exit (B := 60) (N := 60) rfl (by decide) hi) c)
    refine J_iload_10 X dL_law_568 ?_
    exact J_zret X rfl (Or.inr rfl) (hroom2 (show (190 + i * 1008) ≤ 600086 by omega) (show (11797 + i * 6148) ≤ 7301442 by omega)) rfl dL_law_570
  | succ n ih =>
    intro i hx h ξ σ hi hL hX hI hO hQ hA ht
    have hi60 : i < 60 := by omega
    have K525 : ∀ (hx h : fH) (ξ σ : St) (one two : Int32), vp_in one 60000 → vp_in two 60000 → LH (kca K) hx h α σ → RA (kca K) hx r ξ → InvX ξ → InvO ξ → LQ ξ σ → AG σ → ix (ξ 0 0) ≤ 300 * (i + 1) → J K h [some (.ref b), some (.ref r), some (.ref (α 0)), some (.ref (α 1)), some (.ref (α 2)), some (.ref (α 3)), some (.ref (α 4)), some (.ref (α 5)), some (.ref (α 6)), some (.ref (α 7)), some (.int (1 : Int32)), some (.int (nI i)), none, some (.int one), some (.int two)] [] 525 (190 + i * 1008 + 8) (11797 + i * 6148 + 148) := by
      intro hx h ξ σ one two h1 h2 hL hX hI hO hQ hA ht
      refine J_iload_10 X dL_law_525 ?_
      refine J_if_eq (tgt := 559) X dL_law_527 (by decide) (fun c => absurd c (by decide)) (fun _ => ?_)
      refine J_aload_1 X dL_law_530 ?_
      refine J_aload_2 X dL_law_531 ?_
      refine J_aload_3 X dL_law_532 ?_
      refine J_aload_4 X dL_law_533 ?_
      refine J_aload_5 X dL_law_535 ?_
      refine J_aload_6 X dL_law_537 ?_
      refine J_aload_7 X dL_law_539 ?_
      refine J_aload_8 X dL_law_541 ?_
      refine J_aload_9 X dL_law_543 ?_
      refine J_iload_13 X dL_law_545 ?_
      refine J_iload_14 X dL_law_547 ?_
      refine J_callS X (c_isSo hL hX hI hO hQ hA one two h1 h2) (And.intro gw_4_75 cw_L_isSo) rfl (hroom2 (show (190 + i * 1008 + 8 + 1000) ≤ 600086 by omega) (show (11797 + i * 6148 + 148 + 6000) ≤ 7301442 by omega)) (Nat.le_of_ble_eq_true rfl) dL_law_549 rfl (fun v hh e => ?_) JE.no
      obtain ⟨e0, hx2, hL2, hX2⟩ := e
      subst e0
      show J K hh [some (.ref b), some (.ref r), some (.ref (α 0)), some (.ref (α 1)), some (.ref (α 2)), some (.ref (α 3)), some (.ref (α 4)), some (.ref (α 5)), some (.ref (α 6)), some (.ref (α 7)), some (.int (1 : Int32)), some (.int (nI i)), none, some (.int one), some (.int two)] [.int (1 : Int32)] 552 (190 + i * 1008 + 8 + 1000) (11797 + i * 6148 + 148 + 6000)
      refine J_if_eq (tgt := 559) X dL_law_552 (by decide) (fun c => absurd c (by decide)) (fun _ => ?_)
      refine J_iconst (v := 1) X dL_law_555 rfl ?_
      refine J_goto (tgt := 560) X dL_law_556 (by decide) ?_
      refine J_istore_10 X dL_law_560 rfl (by decide) ?_
      refine J_iinc_11 (v := (nI (i + 1))) X dL_law_562 (nI_1 _) rfl (by decide) ?_
      refine J_goto (tgt := 191) X dL_law_565 (by decide) ?_
      refine J.subL (lv' := [some (.ref b), some (.ref r), some (.ref (α 0)), some (.ref (α 1)), some (.ref (α 2)), some (.ref (α 3)), some (.ref (α 4)), some (.ref (α 5)), some (.ref (α 6)), some (.ref (α 7)), some (.int (1 : Int32)), some (.int (nI (i + 1))), none, none, none]) (And.intro rfl (And.intro rfl (And.intro rfl (And.intro rfl (And.intro rfl (And.intro rfl (And.intro rfl (And.intro rfl (And.intro rfl (And.intro rfl (And.intro rfl (And.intro rfl trivial)))))))))))) ?_
      refine J.widen (k := (190 + (i + 1) * 1008)) (j := (11797 + (i + 1) * 6148)) (by omega) (by omega) ?_
      exact ih (i + 1) hx2 hh ξ σ (by omega) hL2 hX2 hI hO hQ hA ht
    have K290 : ∀ (what one two : Int32), vp_in one 60000 → vp_in two 60000 → J K h [some (.ref b), some (.ref r), some (.ref (α 0)), some (.ref (α 1)), some (.ref (α 2)), some (.ref (α 3)), some (.ref (α 4)), some (.ref (α 5)), some (.ref (α 6)), some (.ref (α 7)), some (.int (1 : Int32)), some (.int (nI i)), some (.int what), some (.int one), some (.int two)] [] 290 (190 + i * 1008) (11797 + i * 6148) := by
      intro what one two h1 h2
      refine J_iload_12 X dL_law_290 ?_
      refine J_bipush (v := (12 : Int32)) X dL_law_292 (by decide) ?_
      refine J_icmp_ge (tgt := 383) X dL_law_294 (by decide) (fun _ => ?_) (fun _ => ?_)
      · skip
        refine J_iload_12 X dL_law_383 ?_
        refine J_bipush (v := (36 : Int32)) X dL_law_385 (by decide) ?_
        refine J_icmp_ge (tgt := 469) X dL_law_387 (by decide) (fun _ => ?_) (fun _ => ?_)
        · skip
          refine J_aload_1 X dL_law_469 ?_
          refine J_aload_2 X dL_law_470 ?_
          refine J_aload_3 X dL_law_471 ?_
          refine J_aload_4 X dL_law_472 ?_
          refine J_aload_5 X dL_law_474 ?_
          refine J_aload_7 X dL_law_476 ?_
          refine J_aload_8 X dL_law_478 ?_
          refine J_aload_9 X dL_law_480 ?_
          refine J_iload_12 X dL_law_482 ?_
          refine J_bipush (v := (38 : Int32)) X dL_law_484 (by decide) ?_
          refine J_icmp_ge (tgt := 493) X dL_law_486 (by decide) (fun _ => ?_) (fun _ => ?_)
          · skip
            refine J_iload_12 X dL_law_493 ?_
            refine J_bipush (v := (46 : Int32)) X dL_law_495 (by decide) ?_
            refine J_icmp_ge (tgt := 504) X dL_law_497 (by decide) (fun _ => ?_) (fun _ => ?_)
            · skip
              refine J_iload_12 X dL_law_504 ?_
              refine J_bipush (v := (47 : Int32)) X dL_law_506 (by decide) ?_
              refine J_icmp_ge (tgt := 515) X dL_law_508 (by decide) (fun _ => ?_) (fun _ => ?_)
              · skip
                refine J_iconst (v := 3) X dL_law_515 rfl ?_
                refine J_iload_13 X dL_law_516 ?_
                refine J_iload_14 X dL_law_518 ?_
                refine J_callS X (c_R3 hL hX hI hO hQ one two h1 h2) (And.intro gw_4_170 cw_L_isRead) rfl (hroom2 (show (190 + i * 1008 + 1) ≤ 600086 by omega) (show (11797 + i * 6148 + 6) ≤ 7301442 by omega)) (Nat.le_of_ble_eq_true rfl) dL_law_520 rfl (fun v hh e => ?_) JE.no
                obtain ⟨e0, hx2, hL2, hX2⟩ := e
                subst e0
                obtain ⟨ok1, ok2, ok3, ok4⟩ := R3_ok hQ hI hO h1 h2
                obtain ⟨at1, at2⟩ : AT σ (R3_s σ ξ one two) := AT_R3 hQ hA ok2
                rw [ok2.g.1, hQ.g.1] at at2
                show J K hh [some (.ref b), some (.ref r), some (.ref (α 0)), some (.ref (α 1)), some (.ref (α 2)), some (.ref (α 3)), some (.ref (α 4)), some (.ref (α 5)), some (.ref (α 6)), some (.ref (α 7)), some (.int (1 : Int32)), some (.int (nI i)), some (.int what), some (.int one), some (.int two)] [.int (R3 σ ξ one two)] 523 (190 + i * 1008 + 1) (11797 + i * 6148 + 6)
                refine J.eqi ok1 ?_
                refine J_istore_10 X dL_law_523 rfl (by decide) ?_
                refine J.subL (lv' := [some (.ref b), some (.ref r), some (.ref (α 0)), some (.ref (α 1)), some (.ref (α 2)), some (.ref (α 3)), some (.ref (α 4)), some (.ref (α 5)), some (.ref (α 6)), some (.ref (α 7)), some (.int (1 : Int32)), some (.int (nI i)), none, some (.int one), some (.int two)]) (And.intro rfl (And.intro rfl (And.intro rfl (And.intro rfl (And.intro rfl (And.intro rfl (And.intro rfl (And.intro rfl (And.intro rfl (And.intro rfl (And.intro rfl (And.intro rfl (And.intro rfl (And.intro rfl trivial)))))))))))))) ?_
                refine J.widen (k := (190 + i * 1008 + 8)) (j := (11797 + i * 6148 + 148)) (by omega) (by omega) ?_
                exact K525 hx2 hh _ _ one two h1 h2 hL2 hX2 ok3 ok4 ok2 at1 (by omega)
              · skip
                refine J_iconst (v := 2) X dL_law_511 rfl ?_
                refine J_goto (tgt := 516) X dL_law_512 (by decide) ?_
                refine J_iload_13 X dL_law_516 ?_
                refine J_iload_14 X dL_law_518 ?_
                refine J_callS X (c_R2 hL hX hI hO hQ one two h1 h2) (And.intro gw_4_170 cw_L_isRead) rfl (hroom2 (show (190 + i * 1008 + 2) ≤ 600086 by omega) (show (11797 + i * 6148 + 12) ≤ 7301442 by omega)) (Nat.le_of_ble_eq_true rfl) dL_law_520 rfl (fun v hh e => ?_) JE.no
                obtain ⟨e0, hx2, hL2, hX2⟩ := e
                subst e0
                obtain ⟨ok1, ok2, ok3, ok4⟩ := R2_ok hQ hI hO h1 h2
                obtain ⟨at1, at2⟩ : AT σ (R2_s σ ξ one two) := AT_R2 hQ hA ok2
                rw [ok2.g.1, hQ.g.1] at at2
                show J K hh [some (.ref b), some (.ref r), some (.ref (α 0)), some (.ref (α 1)), some (.ref (α 2)), some (.ref (α 3)), some (.ref (α 4)), some (.ref (α 5)), some (.ref (α 6)), some (.ref (α 7)), some (.int (1 : Int32)), some (.int (nI i)), some (.int what), some (.int one), some (.int two)] [.int (R2 σ ξ one two)] 523 (190 + i * 1008 + 2) (11797 + i * 6148 + 12)
                refine J.eqi ok1 ?_
                refine J_istore_10 X dL_law_523 rfl (by decide) ?_
                refine J.subL (lv' := [some (.ref b), some (.ref r), some (.ref (α 0)), some (.ref (α 1)), some (.ref (α 2)), some (.ref (α 3)), some (.ref (α 4)), some (.ref (α 5)), some (.ref (α 6)), some (.ref (α 7)), some (.int (1 : Int32)), some (.int (nI i)), none, some (.int one), some (.int two)]) (And.intro rfl (And.intro rfl (And.intro rfl (And.intro rfl (And.intro rfl (And.intro rfl (And.intro rfl (And.intro rfl (And.intro rfl (And.intro rfl (And.intro rfl (And.intro rfl (And.intro rfl (And.intro rfl trivial)))))))))))))) ?_
                refine J.widen (k := (190 + i * 1008 + 8)) (j := (11797 + i * 6148 + 148)) (by omega) (by omega) ?_
                exact K525 hx2 hh _ _ one two h1 h2 hL2 hX2 ok3 ok4 ok2 at1 (by omega)
            · skip
              refine J_iconst (v := 1) X dL_law_500 rfl ?_
              refine J_goto (tgt := 516) X dL_law_501 (by decide) ?_
              refine J_iload_13 X dL_law_516 ?_
              refine J_iload_14 X dL_law_518 ?_
              refine J_callS X (c_R1 hL hX hI hO hQ one two h1 h2) (And.intro gw_4_170 cw_L_isRead) rfl (hroom2 (show (190 + i * 1008 + 3) ≤ 600086 by omega) (show (11797 + i * 6148 + 108) ≤ 7301442 by omega)) (Nat.le_of_ble_eq_true rfl) dL_law_520 rfl (fun v hh e => ?_) JE.no
              obtain ⟨e0, hx2, hL2, hX2⟩ := e
              subst e0
              obtain ⟨ok1, ok2, ok3, ok4⟩ := R1_ok hQ hI hO h1 h2
              obtain ⟨at1, at2⟩ : AT σ (R1_s σ ξ one two) := AT_R1 hQ hA ok2 hI h1
              rw [ok2.g.1, hQ.g.1] at at2
              show J K hh [some (.ref b), some (.ref r), some (.ref (α 0)), some (.ref (α 1)), some (.ref (α 2)), some (.ref (α 3)), some (.ref (α 4)), some (.ref (α 5)), some (.ref (α 6)), some (.ref (α 7)), some (.int (1 : Int32)), some (.int (nI i)), some (.int what), some (.int one), some (.int two)] [.int (R1 σ ξ one two)] 523 (190 + i * 1008 + 3) (11797 + i * 6148 + 108)
              refine J.eqi ok1 ?_
              refine J_istore_10 X dL_law_523 rfl (by decide) ?_
              refine J.subL (lv' := [some (.ref b), some (.ref r), some (.ref (α 0)), some (.ref (α 1)), some (.ref (α 2)), some (.ref (α 3)), some (.ref (α 4)), some (.ref (α 5)), some (.ref (α 6)), some (.ref (α 7)), some (.int (1 : Int32)), some (.int (nI i)), none, some (.int one), some (.int two)]) (And.intro rfl (And.intro rfl (And.intro rfl (And.intro rfl (And.intro rfl (And.intro rfl (And.intro rfl (And.intro rfl (And.intro rfl (And.intro rfl (And.intro rfl (And.intro rfl (And.intro rfl (And.intro rfl trivial)))))))))))))) ?_
              refine J.widen (k := (190 + i * 1008 + 8)) (j := (11797 + i * 6148 + 148)) (by omega) (by omega) ?_
              exact K525 hx2 hh _ _ one two h1 h2 hL2 hX2 ok3 ok4 ok2 at1 (by omega)
          · skip
            refine J_iconst (v := 0) X dL_law_489 rfl ?_
            refine J_goto (tgt := 516) X dL_law_490 (by decide) ?_
            refine J_iload_13 X dL_law_516 ?_
            refine J_iload_14 X dL_law_518 ?_
            refine J_callS X (c_R0 hL hX hI hO hQ one two h1 h2) (And.intro gw_4_170 cw_L_isRead) rfl (hroom2 (show (190 + i * 1008 + 7) ≤ 600086 by omega) (show (11797 + i * 6148 + 132) ≤ 7301442 by omega)) (Nat.le_of_ble_eq_true rfl) dL_law_520 rfl (fun v hh e => ?_) JE.no
            obtain ⟨e0, hx2, hL2, hX2⟩ := e
            subst e0
            obtain ⟨ok1, ok2, ok3, ok4⟩ := R0_ok hQ hI hO h1 h2
            obtain ⟨at1, at2⟩ : AT σ (R0_s σ ξ one two) := AT_R0 hQ hA ok2
            rw [ok2.g.1, hQ.g.1] at at2
            show J K hh [some (.ref b), some (.ref r), some (.ref (α 0)), some (.ref (α 1)), some (.ref (α 2)), some (.ref (α 3)), some (.ref (α 4)), some (.ref (α 5)), some (.ref (α 6)), some (.ref (α 7)), some (.int (1 : Int32)), some (.int (nI i)), some (.int what), some (.int one), some (.int two)] [.int (R0 σ ξ one two)] 523 (190 + i * 1008 + 7) (11797 + i * 6148 + 132)
            refine J.eqi ok1 ?_
            refine J_istore_10 X dL_law_523 rfl (by decide) ?_
            refine J.subL (lv' := [some (.ref b), some (.ref r), some (.ref (α 0)), some (.ref (α 1)), some (.ref (α 2)), some (.ref (α 3)), some (.ref (α 4)), some (.ref (α 5)), some (.ref (α 6)), some (.ref (α 7)), some (.int (1 : Int32)), some (.int (nI i)), none, some (.int one), some (.int two)]) (And.intro rfl (And.intro rfl (And.intro rfl (And.intro rfl (And.intro rfl (And.intro rfl (And.intro rfl (And.intro rfl (And.intro rfl (And.intro rfl (And.intro rfl (And.intro rfl (And.intro rfl (And.intro rfl trivial)))))))))))))) ?_
            refine J.widen (k := (190 + i * 1008 + 8)) (j := (11797 + i * 6148 + 148)) (by omega) (by omega) ?_
            exact K525 hx2 hh _ _ one two h1 h2 hL2 hX2 ok3 ok4 ok2 at1 (by omega)
        · skip
          refine J_aload_1 X dL_law_390 ?_
          refine J_aload_2 X dL_law_391 ?_
          refine J_aload_3 X dL_law_392 ?_
          refine J_aload_4 X dL_law_393 ?_
          refine J_aload_5 X dL_law_395 ?_
          refine J_aload_6 X dL_law_397 ?_
          refine J_aload_9 X dL_law_399 ?_
          refine J_iload_12 X dL_law_401 ?_
          refine J_bipush (v := (18 : Int32)) X dL_law_403 (by decide) ?_
          refine J_icmp_ge (tgt := 412) X dL_law_405 (by decide) (fun _ => ?_) (fun _ => ?_)
          · skip
            refine J_iload_12 X dL_law_412 ?_
            refine J_bipush (v := (21 : Int32)) X dL_law_414 (by decide) ?_
            refine J_icmp_ge (tgt := 423) X dL_law_416 (by decide) (fun _ => ?_) (fun _ => ?_)
            · skip
              refine J_iload_12 X dL_law_423 ?_
              refine J_bipush (v := (22 : Int32)) X dL_law_425 (by decide) ?_
              refine J_icmp_ge (tgt := 434) X dL_law_427 (by decide) (fun _ => ?_) (fun _ => ?_)
              · skip
                refine J_iload_12 X dL_law_434 ?_
                refine J_bipush (v := (24 : Int32)) X dL_law_436 (by decide) ?_
                refine J_icmp_ge (tgt := 445) X dL_law_438 (by decide) (fun _ => ?_) (fun _ => ?_)
                · skip
                  refine J_iload_12 X dL_law_445 ?_
                  refine J_bipush (v := (32 : Int32)) X dL_law_447 (by decide) ?_
                  refine J_icmp_ge (tgt := 456) X dL_law_449 (by decide) (fun _ => ?_) (fun _ => ?_)
                  · skip
                    refine J_iconst (v := 5) X dL_law_456 rfl ?_
                    refine J_iload_13 X dL_law_457 ?_
                    refine J_iload_14 X dL_law_459 ?_
                    refine J_callS X (c_L5 hL hX hI hO hQ one two h1 h2) (And.intro gw_4_163 cw_L_isLit) rfl (hroom2 (show (190 + i * 1008 + 1) ≤ 600086 by omega) (show (11797 + i * 6148 + 6) ≤ 7301442 by omega)) (Nat.le_of_ble_eq_true rfl) dL_law_461 rfl (fun v hh e => ?_) JE.no
                    obtain ⟨e0, hx2, hL2, hX2⟩ := e
                    subst e0
                    obtain ⟨ok1, ok2, ok3, ok4⟩ := L5_ok hQ hI hO h1 h2
                    obtain ⟨at1, at2⟩ : AT σ (L5_s σ ξ one two) := AT_L5 hQ hA ok2
                    rw [ok2.g.1, hQ.g.1] at at2
                    show J K hh [some (.ref b), some (.ref r), some (.ref (α 0)), some (.ref (α 1)), some (.ref (α 2)), some (.ref (α 3)), some (.ref (α 4)), some (.ref (α 5)), some (.ref (α 6)), some (.ref (α 7)), some (.int (1 : Int32)), some (.int (nI i)), some (.int what), some (.int one), some (.int two)] [.int (L5 σ ξ one two)] 464 (190 + i * 1008 + 1) (11797 + i * 6148 + 6)
                    refine J.eqi ok1 ?_
                    refine J_istore_10 X dL_law_464 rfl (by decide) ?_
                    refine J_goto (tgt := 525) X dL_law_466 (by decide) ?_
                    refine J.subL (lv' := [some (.ref b), some (.ref r), some (.ref (α 0)), some (.ref (α 1)), some (.ref (α 2)), some (.ref (α 3)), some (.ref (α 4)), some (.ref (α 5)), some (.ref (α 6)), some (.ref (α 7)), some (.int (1 : Int32)), some (.int (nI i)), none, some (.int one), some (.int two)]) (And.intro rfl (And.intro rfl (And.intro rfl (And.intro rfl (And.intro rfl (And.intro rfl (And.intro rfl (And.intro rfl (And.intro rfl (And.intro rfl (And.intro rfl (And.intro rfl (And.intro rfl (And.intro rfl trivial)))))))))))))) ?_
                    refine J.widen (k := (190 + i * 1008 + 8)) (j := (11797 + i * 6148 + 148)) (by omega) (by omega) ?_
                    exact K525 hx2 hh _ _ one two h1 h2 hL2 hX2 ok3 ok4 ok2 at1 (by omega)
                  · skip
                    refine J_iconst (v := 4) X dL_law_452 rfl ?_
                    refine J_goto (tgt := 457) X dL_law_453 (by decide) ?_
                    refine J_iload_13 X dL_law_457 ?_
                    refine J_iload_14 X dL_law_459 ?_
                    refine J_callS X (c_L4 hL hX hI hO hQ one two h1 h2) (And.intro gw_4_163 cw_L_isLit) rfl (hroom2 (show (190 + i * 1008 + 8) ≤ 600086 by omega) (show (11797 + i * 6148 + 48) ≤ 7301442 by omega)) (Nat.le_of_ble_eq_true rfl) dL_law_461 rfl (fun v hh e => ?_) JE.no
                    obtain ⟨e0, hx2, hL2, hX2⟩ := e
                    subst e0
                    obtain ⟨ok1, ok2, ok3, ok4⟩ := L4_ok hQ hI hO h1 h2
                    obtain ⟨at1, at2⟩ : AT σ (L4_s σ ξ one two) := AT_L4 hQ hA ok2
                    rw [ok2.g.1, hQ.g.1] at at2
                    show J K hh [some (.ref b), some (.ref r), some (.ref (α 0)), some (.ref (α 1)), some (.ref (α 2)), some (.ref (α 3)), some (.ref (α 4)), some (.ref (α 5)), some (.ref (α 6)), some (.ref (α 7)), some (.int (1 : Int32)), some (.int (nI i)), some (.int what), some (.int one), some (.int two)] [.int (L4 σ ξ one two)] 464 (190 + i * 1008 + 8) (11797 + i * 6148 + 48)
                    refine J.eqi ok1 ?_
                    refine J_istore_10 X dL_law_464 rfl (by decide) ?_
                    refine J_goto (tgt := 525) X dL_law_466 (by decide) ?_
                    refine J.subL (lv' := [some (.ref b), some (.ref r), some (.ref (α 0)), some (.ref (α 1)), some (.ref (α 2)), some (.ref (α 3)), some (.ref (α 4)), some (.ref (α 5)), some (.ref (α 6)), some (.ref (α 7)), some (.int (1 : Int32)), some (.int (nI i)), none, some (.int one), some (.int two)]) (And.intro rfl (And.intro rfl (And.intro rfl (And.intro rfl (And.intro rfl (And.intro rfl (And.intro rfl (And.intro rfl (And.intro rfl (And.intro rfl (And.intro rfl (And.intro rfl (And.intro rfl (And.intro rfl trivial)))))))))))))) ?_
                    refine J.widen (k := (190 + i * 1008 + 8)) (j := (11797 + i * 6148 + 148)) (by omega) (by omega) ?_
                    exact K525 hx2 hh _ _ one two h1 h2 hL2 hX2 ok3 ok4 ok2 at1 (by omega)
                · skip
                  refine J_iconst (v := 3) X dL_law_441 rfl ?_
                  refine J_goto (tgt := 457) X dL_law_442 (by decide) ?_
                  refine J_iload_13 X dL_law_457 ?_
                  refine J_iload_14 X dL_law_459 ?_
                  refine J_callS X (c_L3 hL hX hI hO hQ one two h1 h2) (And.intro gw_4_163 cw_L_isLit) rfl (hroom2 (show (190 + i * 1008 + 2) ≤ 600086 by omega) (show (11797 + i * 6148 + 12) ≤ 7301442 by omega)) (Nat.le_of_ble_eq_true rfl) dL_law_461 rfl (fun v hh e => ?_) JE.no
                  obtain ⟨e0, hx2, hL2, hX2⟩ := e
                  subst e0
                  obtain ⟨ok1, ok2, ok3, ok4⟩ := L3_ok hQ hI hO h1 h2
                  obtain ⟨at1, at2⟩ : AT σ (L3_s σ ξ one two) := AT_L3 hQ hA ok2
                  rw [ok2.g.1, hQ.g.1] at at2
                  show J K hh [some (.ref b), some (.ref r), some (.ref (α 0)), some (.ref (α 1)), some (.ref (α 2)), some (.ref (α 3)), some (.ref (α 4)), some (.ref (α 5)), some (.ref (α 6)), some (.ref (α 7)), some (.int (1 : Int32)), some (.int (nI i)), some (.int what), some (.int one), some (.int two)] [.int (L3 σ ξ one two)] 464 (190 + i * 1008 + 2) (11797 + i * 6148 + 12)
                  refine J.eqi ok1 ?_
                  refine J_istore_10 X dL_law_464 rfl (by decide) ?_
                  refine J_goto (tgt := 525) X dL_law_466 (by decide) ?_
                  refine J.subL (lv' := [some (.ref b), some (.ref r), some (.ref (α 0)), some (.ref (α 1)), some (.ref (α 2)), some (.ref (α 3)), some (.ref (α 4)), some (.ref (α 5)), some (.ref (α 6)), some (.ref (α 7)), some (.int (1 : Int32)), some (.int (nI i)), none, some (.int one), some (.int two)]) (And.intro rfl (And.intro rfl (And.intro rfl (And.intro rfl (And.intro rfl (And.intro rfl (And.intro rfl (And.intro rfl (And.intro rfl (And.intro rfl (And.intro rfl (And.intro rfl (And.intro rfl (And.intro rfl trivial)))))))))))))) ?_
                  refine J.widen (k := (190 + i * 1008 + 8)) (j := (11797 + i * 6148 + 148)) (by omega) (by omega) ?_
                  exact K525 hx2 hh _ _ one two h1 h2 hL2 hX2 ok3 ok4 ok2 at1 (by omega)
              · skip
                refine J_iconst (v := 2) X dL_law_430 rfl ?_
                refine J_goto (tgt := 457) X dL_law_431 (by decide) ?_
                refine J_iload_13 X dL_law_457 ?_
                refine J_iload_14 X dL_law_459 ?_
                refine J_callS X (c_L2 hL hX hI hO hQ one two h1 h2) (And.intro gw_4_163 cw_L_isLit) rfl (hroom2 (show (190 + i * 1008 + 1) ≤ 600086 by omega) (show (11797 + i * 6148 + 6) ≤ 7301442 by omega)) (Nat.le_of_ble_eq_true rfl) dL_law_461 rfl (fun v hh e => ?_) JE.no
                obtain ⟨e0, hx2, hL2, hX2⟩ := e
                subst e0
                obtain ⟨ok1, ok2, ok3, ok4⟩ := L2_ok hQ hI hO h1 h2
                obtain ⟨at1, at2⟩ : AT σ (L2_s σ ξ one two) := AT_L2 hQ hA ok2
                rw [ok2.g.1, hQ.g.1] at at2
                show J K hh [some (.ref b), some (.ref r), some (.ref (α 0)), some (.ref (α 1)), some (.ref (α 2)), some (.ref (α 3)), some (.ref (α 4)), some (.ref (α 5)), some (.ref (α 6)), some (.ref (α 7)), some (.int (1 : Int32)), some (.int (nI i)), some (.int what), some (.int one), some (.int two)] [.int (L2 σ ξ one two)] 464 (190 + i * 1008 + 1) (11797 + i * 6148 + 6)
                refine J.eqi ok1 ?_
                refine J_istore_10 X dL_law_464 rfl (by decide) ?_
                refine J_goto (tgt := 525) X dL_law_466 (by decide) ?_
                refine J.subL (lv' := [some (.ref b), some (.ref r), some (.ref (α 0)), some (.ref (α 1)), some (.ref (α 2)), some (.ref (α 3)), some (.ref (α 4)), some (.ref (α 5)), some (.ref (α 6)), some (.ref (α 7)), some (.int (1 : Int32)), some (.int (nI i)), none, some (.int one), some (.int two)]) (And.intro rfl (And.intro rfl (And.intro rfl (And.intro rfl (And.intro rfl (And.intro rfl (And.intro rfl (And.intro rfl (And.intro rfl (And.intro rfl (And.intro rfl (And.intro rfl (And.intro rfl (And.intro rfl trivial)))))))))))))) ?_
                refine J.widen (k := (190 + i * 1008 + 8)) (j := (11797 + i * 6148 + 148)) (by omega) (by omega) ?_
                exact K525 hx2 hh _ _ one two h1 h2 hL2 hX2 ok3 ok4 ok2 at1 (by omega)
            · skip
              refine J_iconst (v := 1) X dL_law_419 rfl ?_
              refine J_goto (tgt := 457) X dL_law_420 (by decide) ?_
              refine J_iload_13 X dL_law_457 ?_
              refine J_iload_14 X dL_law_459 ?_
              refine J_callS X (c_L1 hL hX hI hO hQ one two h1 h2) (And.intro gw_4_163 cw_L_isLit) rfl (hroom2 (show (190 + i * 1008 + 4) ≤ 600086 by omega) (show (11797 + i * 6148 + 24) ≤ 7301442 by omega)) (Nat.le_of_ble_eq_true rfl) dL_law_461 rfl (fun v hh e => ?_) JE.no
              obtain ⟨e0, hx2, hL2, hX2⟩ := e
              subst e0
              obtain ⟨ok1, ok2, ok3, ok4⟩ := L1_ok hQ hI hO h1 h2
              obtain ⟨at1, at2⟩ : AT σ (L1_s σ ξ one two) := AT_L1 hQ hA ok2
              rw [ok2.g.1, hQ.g.1] at at2
              show J K hh [some (.ref b), some (.ref r), some (.ref (α 0)), some (.ref (α 1)), some (.ref (α 2)), some (.ref (α 3)), some (.ref (α 4)), some (.ref (α 5)), some (.ref (α 6)), some (.ref (α 7)), some (.int (1 : Int32)), some (.int (nI i)), some (.int what), some (.int one), some (.int two)] [.int (L1 σ ξ one two)] 464 (190 + i * 1008 + 4) (11797 + i * 6148 + 24)
              refine J.eqi ok1 ?_
              refine J_istore_10 X dL_law_464 rfl (by decide) ?_
              refine J_goto (tgt := 525) X dL_law_466 (by decide) ?_
              refine J.subL (lv' := [some (.ref b), some (.ref r), some (.ref (α 0)), some (.ref (α 1)), some (.ref (α 2)), some (.ref (α 3)), some (.ref (α 4)), some (.ref (α 5)), some (.ref (α 6)), some (.ref (α 7)), some (.int (1 : Int32)), some (.int (nI i)), none, some (.int one), some (.int two)]) (And.intro rfl (And.intro rfl (And.intro rfl (And.intro rfl (And.intro rfl (And.intro rfl (And.intro rfl (And.intro rfl (And.intro rfl (And.intro rfl (And.intro rfl (And.intro rfl (And.intro rfl (And.intro rfl trivial)))))))))))))) ?_
              refine J.widen (k := (190 + i * 1008 + 8)) (j := (11797 + i * 6148 + 148)) (by omega) (by omega) ?_
              exact K525 hx2 hh _ _ one two h1 h2 hL2 hX2 ok3 ok4 ok2 at1 (by omega)
          · skip
            refine J_iconst (v := 0) X dL_law_408 rfl ?_
            refine J_goto (tgt := 457) X dL_law_409 (by decide) ?_
            refine J_iload_13 X dL_law_457 ?_
            refine J_iload_14 X dL_law_459 ?_
            refine J_callS X (c_L0 hL hX hI hO hQ one two h1 h2) (And.intro gw_4_163 cw_L_isLit) rfl (hroom2 (show (190 + i * 1008 + 8) ≤ 600086 by omega) (show (11797 + i * 6148 + 148) ≤ 7301442 by omega)) (Nat.le_of_ble_eq_true rfl) dL_law_461 rfl (fun v hh e => ?_) JE.no
            obtain ⟨e0, hx2, hL2, hX2⟩ := e
            subst e0
            obtain ⟨ok1, ok2, ok3, ok4⟩ := L0_ok hQ hI hO h1 h2
            obtain ⟨at1, at2⟩ : AT σ (L0_s σ ξ one two) := AT_L0 hQ hA ok2
            rw [ok2.g.1, hQ.g.1] at at2
            show J K hh [some (.ref b), some (.ref r), some (.ref (α 0)), some (.ref (α 1)), some (.ref (α 2)), some (.ref (α 3)), some (.ref (α 4)), some (.ref (α 5)), some (.ref (α 6)), some (.ref (α 7)), some (.int (1 : Int32)), some (.int (nI i)), some (.int what), some (.int one), some (.int two)] [.int (L0 σ ξ one two)] 464 (190 + i * 1008 + 8) (11797 + i * 6148 + 148)
            refine J.eqi ok1 ?_
            refine J_istore_10 X dL_law_464 rfl (by decide) ?_
            refine J_goto (tgt := 525) X dL_law_466 (by decide) ?_
            refine J.subL (lv' := [some (.ref b), some (.ref r), some (.ref (α 0)), some (.ref (α 1)), some (.ref (α 2)), some (.ref (α 3)), some (.ref (α 4)), some (.ref (α 5)), some (.ref (α 6)), some (.ref (α 7)), some (.int (1 : Int32)), some (.int (nI i)), none, some (.int one), some (.int two)]) (And.intro rfl (And.intro rfl (And.intro rfl (And.intro rfl (And.intro rfl (And.intro rfl (And.intro rfl (And.intro rfl (And.intro rfl (And.intro rfl (And.intro rfl (And.intro rfl (And.intro rfl (And.intro rfl trivial)))))))))))))) ?_
            refine J.widen (k := (190 + i * 1008 + 8)) (j := (11797 + i * 6148 + 148)) (by omega) (by omega) ?_
            exact K525 hx2 hh _ _ one two h1 h2 hL2 hX2 ok3 ok4 ok2 at1 (by omega)
      · skip
        refine J_aload_1 X dL_law_297 ?_
        refine J_aload_2 X dL_law_298 ?_
        refine J_aload_3 X dL_law_299 ?_
        refine J_aload_4 X dL_law_300 ?_
        refine J_aload_5 X dL_law_302 ?_
        refine J_aload_9 X dL_law_304 ?_
        refine J_iload_12 X dL_law_306 ?_
        refine J_iconst (v := 2) X dL_law_308 rfl ?_
        refine J_icmp_ge (tgt := 316) X dL_law_309 (by decide) (fun _ => ?_) (fun _ => ?_)
        · skip
          refine J_iload_12 X dL_law_316 ?_
          refine J_iconst (v := 3) X dL_law_318 rfl ?_
          refine J_icmp_ge (tgt := 326) X dL_law_319 (by decide) (fun _ => ?_) (fun _ => ?_)
          · skip
            refine J_iload_12 X dL_law_326 ?_
            refine J_iconst (v := 5) X dL_law_328 rfl ?_
            refine J_icmp_ge (tgt := 336) X dL_law_329 (by decide) (fun _ => ?_) (fun _ => ?_)
            · skip
              refine J_iload_12 X dL_law_336 ?_
              refine J_bipush (v := (6 : Int32)) X dL_law_338 (by decide) ?_
              refine J_icmp_ge (tgt := 347) X dL_law_340 (by decide) (fun _ => ?_) (fun _ => ?_)
              · skip
                refine J_iload_12 X dL_law_347 ?_
                refine J_bipush (v := (7 : Int32)) X dL_law_349 (by decide) ?_
                refine J_icmp_ge (tgt := 358) X dL_law_351 (by decide) (fun _ => ?_) (fun _ => ?_)
                · skip
                  refine J_iload_12 X dL_law_358 ?_
                  refine J_bipush (v := (11 : Int32)) X dL_law_360 (by decide) ?_
                  refine J_icmp_ge (tgt := 369) X dL_law_362 (by decide) (fun _ => ?_) (fun _ => ?_)
                  · skip
                    refine J_bipush (v := (6 : Int32)) X dL_law_369 (by decide) ?_
                    refine J_iload_13 X dL_law_371 ?_
                    refine J_iload_14 X dL_law_373 ?_
                    refine J_callS X (c_T6 hL hX hI hO hQ one two h1 h2) (And.intro gw_4_156 cw_L_isTold) rfl (hroom2 (show (190 + i * 1008 + 5) ≤ 600086 by omega) (show (11797 + i * 6148 + 123) ≤ 7301442 by omega)) (Nat.le_of_ble_eq_true rfl) dL_law_375 rfl (fun v hh e => ?_) JE.no
                    obtain ⟨e0, hx2, hL2, hX2⟩ := e
                    subst e0
                    obtain ⟨ok1, ok2, ok3, ok4⟩ := T6_ok hQ hI hO h1 h2
                    obtain ⟨at1, at2⟩ : AT σ (T6_s σ ξ one two) := AT_T6 hQ hA ok2
                    rw [ok2.g.1, hQ.g.1] at at2
                    show J K hh [some (.ref b), some (.ref r), some (.ref (α 0)), some (.ref (α 1)), some (.ref (α 2)), some (.ref (α 3)), some (.ref (α 4)), some (.ref (α 5)), some (.ref (α 6)), some (.ref (α 7)), some (.int (1 : Int32)), some (.int (nI i)), some (.int what), some (.int one), some (.int two)] [.int (T6 σ ξ one two)] 378 (190 + i * 1008 + 5) (11797 + i * 6148 + 123)
                    refine J.eqi ok1 ?_
                    refine J_istore_10 X dL_law_378 rfl (by decide) ?_
                    refine J_goto (tgt := 525) X dL_law_380 (by decide) ?_
                    refine J.subL (lv' := [some (.ref b), some (.ref r), some (.ref (α 0)), some (.ref (α 1)), some (.ref (α 2)), some (.ref (α 3)), some (.ref (α 4)), some (.ref (α 5)), some (.ref (α 6)), some (.ref (α 7)), some (.int (1 : Int32)), some (.int (nI i)), none, some (.int one), some (.int two)]) (And.intro rfl (And.intro rfl (And.intro rfl (And.intro rfl (And.intro rfl (And.intro rfl (And.intro rfl (And.intro rfl (And.intro rfl (And.intro rfl (And.intro rfl (And.intro rfl (And.intro rfl (And.intro rfl trivial)))))))))))))) ?_
                    refine J.widen (k := (190 + i * 1008 + 8)) (j := (11797 + i * 6148 + 148)) (by omega) (by omega) ?_
                    exact K525 hx2 hh _ _ one two h1 h2 hL2 hX2 ok3 ok4 ok2 at1 (by omega)
                  · skip
                    refine J_iconst (v := 5) X dL_law_365 rfl ?_
                    refine J_goto (tgt := 371) X dL_law_366 (by decide) ?_
                    refine J_iload_13 X dL_law_371 ?_
                    refine J_iload_14 X dL_law_373 ?_
                    refine J_callS X (c_T5 hL hX hI hO hQ one two h1 h2 (by omega)) (And.intro gw_4_156 cw_L_isTold) rfl (hroom2 (show (190 + i * 1008 + 2) ≤ 600086 by omega) (show (11797 + i * 6148 + 12) ≤ 7301442 by omega)) (Nat.le_of_ble_eq_true rfl) dL_law_375 rfl (fun v hh e => ?_) JE.no
                    obtain ⟨e0, hx2, hL2, hX2⟩ := e
                    subst e0
                    obtain ⟨ok1, ok2, ok3, ok4⟩ := T5_ok hQ hI hO h1 h2 (by omega)
                    obtain ⟨at1, at2⟩ : AT σ (T5_s σ ξ one two) := AT_T5 hQ hI hA h2
                    rw [ok2.g.1, hQ.g.1] at at2
                    show J K hh [some (.ref b), some (.ref r), some (.ref (α 0)), some (.ref (α 1)), some (.ref (α 2)), some (.ref (α 3)), some (.ref (α 4)), some (.ref (α 5)), some (.ref (α 6)), some (.ref (α 7)), some (.int (1 : Int32)), some (.int (nI i)), some (.int what), some (.int one), some (.int two)] [.int (T5 σ ξ one two)] 378 (190 + i * 1008 + 2) (11797 + i * 6148 + 12)
                    refine J.eqi ok1 ?_
                    refine J_istore_10 X dL_law_378 rfl (by decide) ?_
                    refine J_goto (tgt := 525) X dL_law_380 (by decide) ?_
                    refine J.subL (lv' := [some (.ref b), some (.ref r), some (.ref (α 0)), some (.ref (α 1)), some (.ref (α 2)), some (.ref (α 3)), some (.ref (α 4)), some (.ref (α 5)), some (.ref (α 6)), some (.ref (α 7)), some (.int (1 : Int32)), some (.int (nI i)), none, some (.int one), some (.int two)]) (And.intro rfl (And.intro rfl (And.intro rfl (And.intro rfl (And.intro rfl (And.intro rfl (And.intro rfl (And.intro rfl (And.intro rfl (And.intro rfl (And.intro rfl (And.intro rfl (And.intro rfl (And.intro rfl trivial)))))))))))))) ?_
                    refine J.widen (k := (190 + i * 1008 + 8)) (j := (11797 + i * 6148 + 148)) (by omega) (by omega) ?_
                    exact K525 hx2 hh _ _ one two h1 h2 hL2 hX2 ok3 ok4 ok2 at1 (by omega)
                · skip
                  refine J_iconst (v := 4) X dL_law_354 rfl ?_
                  refine J_goto (tgt := 371) X dL_law_355 (by decide) ?_
                  refine J_iload_13 X dL_law_371 ?_
                  refine J_iload_14 X dL_law_373 ?_
                  refine J_callS X (c_T4 hL hX hI hO hQ one two h1 h2) (And.intro gw_4_156 cw_L_isTold) rfl (hroom2 (show (190 + i * 1008 + 1) ≤ 600086 by omega) (show (11797 + i * 6148 + 6) ≤ 7301442 by omega)) (Nat.le_of_ble_eq_true rfl) dL_law_375 rfl (fun v hh e => ?_) JE.no
                  obtain ⟨e0, hx2, hL2, hX2⟩ := e
                  subst e0
                  obtain ⟨ok1, ok2, ok3, ok4⟩ := T4_ok hQ hI hO h1 h2
                  obtain ⟨at1, at2⟩ : AT σ (T4_s σ ξ one two) := AT_T4 hQ hA ok2
                  rw [ok2.g.1, hQ.g.1] at at2
                  show J K hh [some (.ref b), some (.ref r), some (.ref (α 0)), some (.ref (α 1)), some (.ref (α 2)), some (.ref (α 3)), some (.ref (α 4)), some (.ref (α 5)), some (.ref (α 6)), some (.ref (α 7)), some (.int (1 : Int32)), some (.int (nI i)), some (.int what), some (.int one), some (.int two)] [.int (T4 σ ξ one two)] 378 (190 + i * 1008 + 1) (11797 + i * 6148 + 6)
                  refine J.eqi ok1 ?_
                  refine J_istore_10 X dL_law_378 rfl (by decide) ?_
                  refine J_goto (tgt := 525) X dL_law_380 (by decide) ?_
                  refine J.subL (lv' := [some (.ref b), some (.ref r), some (.ref (α 0)), some (.ref (α 1)), some (.ref (α 2)), some (.ref (α 3)), some (.ref (α 4)), some (.ref (α 5)), some (.ref (α 6)), some (.ref (α 7)), some (.int (1 : Int32)), some (.int (nI i)), none, some (.int one), some (.int two)]) (And.intro rfl (And.intro rfl (And.intro rfl (And.intro rfl (And.intro rfl (And.intro rfl (And.intro rfl (And.intro rfl (And.intro rfl (And.intro rfl (And.intro rfl (And.intro rfl (And.intro rfl (And.intro rfl trivial)))))))))))))) ?_
                  refine J.widen (k := (190 + i * 1008 + 8)) (j := (11797 + i * 6148 + 148)) (by omega) (by omega) ?_
                  exact K525 hx2 hh _ _ one two h1 h2 hL2 hX2 ok3 ok4 ok2 at1 (by omega)
              · skip
                refine J_iconst (v := 3) X dL_law_343 rfl ?_
                refine J_goto (tgt := 371) X dL_law_344 (by decide) ?_
                refine J_iload_13 X dL_law_371 ?_
                refine J_iload_14 X dL_law_373 ?_
                refine J_callS X (c_T3 hL hX hI hO hQ one two h1 h2) (And.intro gw_4_156 cw_L_isTold) rfl (hroom2 (show (190 + i * 1008 + 2) ≤ 600086 by omega) (show (11797 + i * 6148 + 12) ≤ 7301442 by omega)) (Nat.le_of_ble_eq_true rfl) dL_law_375 rfl (fun v hh e => ?_) JE.no
                obtain ⟨e0, hx2, hL2, hX2⟩ := e
                subst e0
                obtain ⟨ok1, ok2, ok3, ok4⟩ := T3_ok hQ hI hO h1 h2
                obtain ⟨at1, at2⟩ : AT σ (T3_s σ ξ one two) := AT_T3 hQ hA ok2
                rw [ok2.g.1, hQ.g.1] at at2
                show J K hh [some (.ref b), some (.ref r), some (.ref (α 0)), some (.ref (α 1)), some (.ref (α 2)), some (.ref (α 3)), some (.ref (α 4)), some (.ref (α 5)), some (.ref (α 6)), some (.ref (α 7)), some (.int (1 : Int32)), some (.int (nI i)), some (.int what), some (.int one), some (.int two)] [.int (T3 σ ξ one two)] 378 (190 + i * 1008 + 2) (11797 + i * 6148 + 12)
                refine J.eqi ok1 ?_
                refine J_istore_10 X dL_law_378 rfl (by decide) ?_
                refine J_goto (tgt := 525) X dL_law_380 (by decide) ?_
                refine J.subL (lv' := [some (.ref b), some (.ref r), some (.ref (α 0)), some (.ref (α 1)), some (.ref (α 2)), some (.ref (α 3)), some (.ref (α 4)), some (.ref (α 5)), some (.ref (α 6)), some (.ref (α 7)), some (.int (1 : Int32)), some (.int (nI i)), none, some (.int one), some (.int two)]) (And.intro rfl (And.intro rfl (And.intro rfl (And.intro rfl (And.intro rfl (And.intro rfl (And.intro rfl (And.intro rfl (And.intro rfl (And.intro rfl (And.intro rfl (And.intro rfl (And.intro rfl (And.intro rfl trivial)))))))))))))) ?_
                refine J.widen (k := (190 + i * 1008 + 8)) (j := (11797 + i * 6148 + 148)) (by omega) (by omega) ?_
                exact K525 hx2 hh _ _ one two h1 h2 hL2 hX2 ok3 ok4 ok2 at1 (by omega)
            · skip
              refine J_iconst (v := 2) X dL_law_332 rfl ?_
              refine J_goto (tgt := 371) X dL_law_333 (by decide) ?_
              refine J_iload_13 X dL_law_371 ?_
              refine J_iload_14 X dL_law_373 ?_
              refine J_callS X (c_T2 hL hX hI hO hQ one two h1 h2) (And.intro gw_4_156 cw_L_isTold) rfl (hroom2 (show (190 + i * 1008 + 4) ≤ 600086 by omega) (show (11797 + i * 6148 + 24) ≤ 7301442 by omega)) (Nat.le_of_ble_eq_true rfl) dL_law_375 rfl (fun v hh e => ?_) JE.no
              obtain ⟨e0, hx2, hL2, hX2⟩ := e
              subst e0
              obtain ⟨ok1, ok2, ok3, ok4⟩ := T2_ok hQ hI hO h1 h2
              obtain ⟨at1, at2⟩ : AT σ (T2_s σ ξ one two) := AT_T2 hQ hA ok2
              rw [ok2.g.1, hQ.g.1] at at2
              show J K hh [some (.ref b), some (.ref r), some (.ref (α 0)), some (.ref (α 1)), some (.ref (α 2)), some (.ref (α 3)), some (.ref (α 4)), some (.ref (α 5)), some (.ref (α 6)), some (.ref (α 7)), some (.int (1 : Int32)), some (.int (nI i)), some (.int what), some (.int one), some (.int two)] [.int (T2 σ ξ one two)] 378 (190 + i * 1008 + 4) (11797 + i * 6148 + 24)
              refine J.eqi ok1 ?_
              refine J_istore_10 X dL_law_378 rfl (by decide) ?_
              refine J_goto (tgt := 525) X dL_law_380 (by decide) ?_
              refine J.subL (lv' := [some (.ref b), some (.ref r), some (.ref (α 0)), some (.ref (α 1)), some (.ref (α 2)), some (.ref (α 3)), some (.ref (α 4)), some (.ref (α 5)), some (.ref (α 6)), some (.ref (α 7)), some (.int (1 : Int32)), some (.int (nI i)), none, some (.int one), some (.int two)]) (And.intro rfl (And.intro rfl (And.intro rfl (And.intro rfl (And.intro rfl (And.intro rfl (And.intro rfl (And.intro rfl (And.intro rfl (And.intro rfl (And.intro rfl (And.intro rfl (And.intro rfl (And.intro rfl trivial)))))))))))))) ?_
              refine J.widen (k := (190 + i * 1008 + 8)) (j := (11797 + i * 6148 + 148)) (by omega) (by omega) ?_
              exact K525 hx2 hh _ _ one two h1 h2 hL2 hX2 ok3 ok4 ok2 at1 (by omega)
          · skip
            refine J_iconst (v := 1) X dL_law_322 rfl ?_
            refine J_goto (tgt := 371) X dL_law_323 (by decide) ?_
            refine J_iload_13 X dL_law_371 ?_
            refine J_iload_14 X dL_law_373 ?_
            refine J_callS X (c_T1 hL hX hI hO hQ one two h1 h2) (And.intro gw_4_156 cw_L_isTold) rfl (hroom2 (show (190 + i * 1008 + 2) ≤ 600086 by omega) (show (11797 + i * 6148 + 12) ≤ 7301442 by omega)) (Nat.le_of_ble_eq_true rfl) dL_law_375 rfl (fun v hh e => ?_) JE.no
            obtain ⟨e0, hx2, hL2, hX2⟩ := e
            subst e0
            obtain ⟨ok1, ok2, ok3, ok4⟩ := T1_ok hQ hI hO h1 h2
            obtain ⟨at1, at2⟩ : AT σ (T1_s σ ξ one two) := AT_T1 hQ hA ok2
            rw [ok2.g.1, hQ.g.1] at at2
            show J K hh [some (.ref b), some (.ref r), some (.ref (α 0)), some (.ref (α 1)), some (.ref (α 2)), some (.ref (α 3)), some (.ref (α 4)), some (.ref (α 5)), some (.ref (α 6)), some (.ref (α 7)), some (.int (1 : Int32)), some (.int (nI i)), some (.int what), some (.int one), some (.int two)] [.int (T1 σ ξ one two)] 378 (190 + i * 1008 + 2) (11797 + i * 6148 + 12)
            refine J.eqi ok1 ?_
            refine J_istore_10 X dL_law_378 rfl (by decide) ?_
            refine J_goto (tgt := 525) X dL_law_380 (by decide) ?_
            refine J.subL (lv' := [some (.ref b), some (.ref r), some (.ref (α 0)), some (.ref (α 1)), some (.ref (α 2)), some (.ref (α 3)), some (.ref (α 4)), some (.ref (α 5)), some (.ref (α 6)), some (.ref (α 7)), some (.int (1 : Int32)), some (.int (nI i)), none, some (.int one), some (.int two)]) (And.intro rfl (And.intro rfl (And.intro rfl (And.intro rfl (And.intro rfl (And.intro rfl (And.intro rfl (And.intro rfl (And.intro rfl (And.intro rfl (And.intro rfl (And.intro rfl (And.intro rfl (And.intro rfl trivial)))))))))))))) ?_
            refine J.widen (k := (190 + i * 1008 + 8)) (j := (11797 + i * 6148 + 148)) (by omega) (by omega) ?_
            exact K525 hx2 hh _ _ one two h1 h2 hL2 hX2 ok3 ok4 ok2 at1 (by omega)
        · skip
          refine J_iconst (v := 0) X dL_law_312 rfl ?_
          refine J_goto (tgt := 371) X dL_law_313 (by decide) ?_
          refine J_iload_13 X dL_law_371 ?_
          refine J_iload_14 X dL_law_373 ?_
          refine J_callS X (c_T0 hL hX hI hO hQ one two h1 h2) (And.intro gw_4_156 cw_L_isTold) rfl (hroom2 (show (190 + i * 1008 + 1) ≤ 600086 by omega) (show (11797 + i * 6148 + 6) ≤ 7301442 by omega)) (Nat.le_of_ble_eq_true rfl) dL_law_375 rfl (fun v hh e => ?_) JE.no
          obtain ⟨e0, hx2, hL2, hX2⟩ := e
          subst e0
          obtain ⟨ok1, ok2, ok3, ok4⟩ := T0_ok hQ hI hO h1 h2
          obtain ⟨at1, at2⟩ : AT σ (T0_s σ ξ one two) := AT_T0 hQ hA ok2
          rw [ok2.g.1, hQ.g.1] at at2
          show J K hh [some (.ref b), some (.ref r), some (.ref (α 0)), some (.ref (α 1)), some (.ref (α 2)), some (.ref (α 3)), some (.ref (α 4)), some (.ref (α 5)), some (.ref (α 6)), some (.ref (α 7)), some (.int (1 : Int32)), some (.int (nI i)), some (.int what), some (.int one), some (.int two)] [.int (T0 σ ξ one two)] 378 (190 + i * 1008 + 1) (11797 + i * 6148 + 6)
          refine J.eqi ok1 ?_
          refine J_istore_10 X dL_law_378 rfl (by decide) ?_
          refine J_goto (tgt := 525) X dL_law_380 (by decide) ?_
          refine J.subL (lv' := [some (.ref b), some (.ref r), some (.ref (α 0)), some (.ref (α 1)), some (.ref (α 2)), some (.ref (α 3)), some (.ref (α 4)), some (.ref (α 5)), some (.ref (α 6)), some (.ref (α 7)), some (.int (1 : Int32)), some (.int (nI i)), none, some (.int one), some (.int two)]) (And.intro rfl (And.intro rfl (And.intro rfl (And.intro rfl (And.intro rfl (And.intro rfl (And.intro rfl (And.intro rfl (And.intro rfl (And.intro rfl (And.intro rfl (And.intro rfl (And.intro rfl (And.intro rfl trivial)))))))))))))) ?_
          refine J.widen (k := (190 + i * 1008 + 8)) (j := (11797 + i * 6148 + 148)) (by omega) (by omega) ?_
          exact K525 hx2 hh _ _ one two h1 h2 hL2 hX2 ok3 ok4 ok2 at1 (by omega)
    have K260 : ∀ what : Int32, J K h [some (.ref b), some (.ref r), some (.ref (α 0)), some (.ref (α 1)), some (.ref (α 2)), some (.ref (α 3)), some (.ref (α 4)), some (.ref (α 5)), some (.ref (α 6)), some (.ref (α 7)), some (.int (1 : Int32)), some (.int (nI i)), none, none, none] [.int what] 260 (190 + i * 1008) (11797 + i * 6148) := by
      intro what
      have hk1 : vp_in (((3 : Int32) * (nI i)) + (1 : Int32)) 1000 := by
        rw [show (3 : Int32) = nI 3 from rfl, pk_mul, nI_1]
        exact vp_in_nI (by omega) (by decide)
      have hk2 : vp_in (((3 : Int32) * (nI i)) + (2 : Int32)) 1000 := by
        rw [show (3 : Int32) = nI 3 from rfl, show (2 : Int32) = nI 2 from rfl, pk_mul, nI_add]
        exact vp_in_nI (by omega) (by decide)
      refine J_istore_12 X dL_law_260 rfl (by decide) ?_
      refine J_aload_0 X dL_law_262 ?_
      refine J_iconst (v := 3) X dL_law_263 rfl ?_
      refine J_iload_11 X dL_law_264 ?_
      refine J_imul X dL_law_266 ?_
      refine J_iconst (v := 1) X dL_law_267 rfl ?_
      refine J_iadd X dL_law_268 ?_
      refine J_ldc (v := (60000 : Int32)) X dL_law_269 gw_4_185 ?_
      refine J_callSX X (c_part hLn hk1 (n := 60000) (by decide) (by decide)) hXs hbl hbA (And.intro gw_2_173 cw_L_part) rfl (hroom2 (show (190 + i * 1008) ≤ 600086 by omega) (show (11797 + i * 6148) ≤ 7301442 by omega)) (Nat.le_of_ble_eq_true rfl) dL_law_271 rfl (fun v hh e => ?_) JE.no
      obtain ⟨⟨one, e0, hone⟩, e1⟩ := e
      subst e0
      rw [e1]
      show J K h [some (.ref b), some (.ref r), some (.ref (α 0)), some (.ref (α 1)), some (.ref (α 2)), some (.ref (α 3)), some (.ref (α 4)), some (.ref (α 5)), some (.ref (α 6)), some (.ref (α 7)), some (.int (1 : Int32)), some (.int (nI i)), some (.int what), none, none] [.int one] 274 (190 + i * 1008) (11797 + i * 6148)
      refine J_istore_13 X dL_law_274 rfl (by decide) ?_
      refine J_aload_0 X dL_law_276 ?_
      refine J_iconst (v := 3) X dL_law_277 rfl ?_
      refine J_iload_11 X dL_law_278 ?_
      refine J_imul X dL_law_280 ?_
      refine J_iconst (v := 2) X dL_law_281 rfl ?_
      refine J_iadd X dL_law_282 ?_
      refine J_ldc (v := (60000 : Int32)) X dL_law_283 gw_4_185 ?_
      refine J_callSX X (c_part hLn hk2 (n := 60000) (by decide) (by decide)) hXs hbl hbA (And.intro gw_2_173 cw_L_part) rfl (hroom2 (show (190 + i * 1008) ≤ 600086 by omega) (show (11797 + i * 6148) ≤ 7301442 by omega)) (Nat.le_of_ble_eq_true rfl) dL_law_285 rfl (fun v hh e => ?_) JE.no
      obtain ⟨⟨two, e0, htwo⟩, e1⟩ := e
      subst e0
      rw [e1]
      show J K h [some (.ref b), some (.ref r), some (.ref (α 0)), some (.ref (α 1)), some (.ref (α 2)), some (.ref (α 3)), some (.ref (α 4)), some (.ref (α 5)), some (.ref (α 6)), some (.ref (α 7)), some (.int (1 : Int32)), some (.int (nI i)), some (.int what), some (.int one), none] [.int two] 288 (190 + i * 1008) (11797 + i * 6148)
      refine J_istore_14 X dL_law_288 rfl (by decide) ?_
      exact K290 what one two hone htwo
    refine J_iload_11 X dL_law_191 ?_
    refine J_bipush (v := (60 : Int32)) X dL_law_193 (by decide) ?_
    refine J_icmp_ge (tgt := 568) X dL_law_195 (by decide) (fun c => absurd c (lp_stay (B := 60) (N := 60) rfl (by decide) hi)) (fun _ => ?_)
    refine J_iload_10 X dL_law_198 ?_
    refine J_if_eq (tgt := 568) X dL_law_200 (by decide) (fun c => absurd c (by decide)) (fun _ => ?_)
    refine J_iload_11 X dL_law_203 ?_
    refine J_iconst (v := 2) X dL_law_205 rfl ?_
    refine J_icmp_ge (tgt := 214) X dL_law_206 (by decide) (fun _ => ?_) (fun _ => ?_)
    · skip
      refine J_iload_11 X dL_law_214 ?_
      refine J_bipush (v := (6 : Int32)) X dL_law_216 (by decide) ?_
      refine J_icmp_ge (tgt := 226) X dL_law_218 (by decide) (fun _ => ?_) (fun _ => ?_)
      · skip
        refine J_iload_11 X dL_law_226 ?_
        refine J_bipush (v := (7 : Int32)) X dL_law_228 (by decide) ?_
        refine J_icmp_ge (tgt := 238) X dL_law_230 (by decide) (fun _ => ?_) (fun _ => ?_)
        · skip
          refine J_iload_11 X dL_law_238 ?_
          refine J_bipush (v := (8 : Int32)) X dL_law_240 (by decide) ?_
          refine J_icmp_ge (tgt := 250) X dL_law_242 (by decide) (fun _ => ?_) (fun _ => ?_)
          · skip
            refine J_aload_0 X dL_law_250 ?_
            refine J_iconst (v := 3) X dL_law_251 rfl ?_
            refine J_iload_11 X dL_law_252 ?_
            refine J_imul X dL_law_254 ?_
            refine J_bipush (v := (52 : Int32)) X dL_law_255 (by decide) ?_
            have hk0 : vp_in ((3 : Int32) * (nI i)) 1000 := by
              rw [show (3 : Int32) = nI 3 from rfl, pk_mul]
              exact vp_in_nI (by omega) (by decide)
            refine J_callSX X (c_part hLn hk0 (n := 52) (by decide) (by decide)) hXs hbl hbA (And.intro gw_2_173 cw_L_part) rfl (hroom2 (show (190 + i * 1008) ≤ 600086 by omega) (show (11797 + i * 6148) ≤ 7301442 by omega)) (Nat.le_of_ble_eq_true rfl) dL_law_257 rfl (fun v hh e => ?_) JE.no
            obtain ⟨⟨what, e0, hwhat⟩, e1⟩ := e
            subst e0
            rw [e1]
            show J K h [some (.ref b), some (.ref r), some (.ref (α 0)), some (.ref (α 1)), some (.ref (α 2)), some (.ref (α 3)), some (.ref (α 4)), some (.ref (α 5)), some (.ref (α 6)), some (.ref (α 7)), some (.int (1 : Int32)), some (.int (nI i)), none, none, none] [.int what] 260 (190 + i * 1008) (11797 + i * 6148)
            exact K260 _
          · skip
            refine J_bipush (v := (8 : Int32)) X dL_law_245 (by decide) ?_
            refine J_goto (tgt := 260) X dL_law_247 (by decide) ?_
            exact K260 _
        · skip
          refine J_bipush (v := (36 : Int32)) X dL_law_233 (by decide) ?_
          refine J_goto (tgt := 260) X dL_law_235 (by decide) ?_
          exact K260 _
      · skip
        refine J_bipush (v := (12 : Int32)) X dL_law_221 (by decide) ?_
        refine J_goto (tgt := 260) X dL_law_223 (by decide) ?_
        exact K260 _
    · skip
      refine J_bipush (v := (11 : Int32)) X dL_law_209 (by decide) ?_
      refine J_goto (tgt := 260) X dL_law_211 (by decide) ?_
      exact K260 _
end
