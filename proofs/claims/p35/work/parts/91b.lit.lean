noncomputable section
def L1_j331 (σ : St) (ξ : St) (one : Int32) (two : Int32) : Int32 := (if (σ 7 (ix (3 : Int32))) ≤ (one - one / ((σ 7 (ix (3 : Int32))) + (1 : Int32)) * ((σ 7 (ix (3 : Int32))) + (1 : Int32))) then (0 : Int32) else (1 : Int32))
theorem L1_j331_b (σ : St) (ξ : St) (one : Int32) (two : Int32) : L1_j331 σ ξ one two = 0 ∨ L1_j331 σ ξ one two = 1 := by
  unfold L1_j331
  (repeat' split) <;> first | exact Or.inl (by with_reducible rfl) | exact Or.inr (by with_reducible rfl)
def L1_j343 (σ : St) (ξ : St) (one : Int32) (two : Int32) : Int32 := (if (L1_j331 σ ξ one two) = (0 : Int32) then (0 : Int32) else (if (σ 3 (ix (((6 : Int32) * (one - one / ((σ 7 (ix (3 : Int32))) + (1 : Int32)) * ((σ 7 (ix (3 : Int32))) + (1 : Int32)))) + (5 : Int32)))) ≤ (σ 7 (ix (0 : Int32))) then (0 : Int32) else (1 : Int32)))
theorem L1_j343_b (σ : St) (ξ : St) (one : Int32) (two : Int32) : L1_j343 σ ξ one two = 0 ∨ L1_j343 σ ξ one two = 1 := by
  unfold L1_j343
  (repeat' split) <;> first | exact Or.inl (by with_reducible rfl) | exact Or.inr (by with_reducible rfl)
def L1_j383 (σ : St) (ξ : St) (one : Int32) (two : Int32) : Int32 := (if (two - two / (29 : Int32) * (29 : Int32)) = (28 : Int32) then (24 : Int32) else (two - two / (24 : Int32) * (24 : Int32)))
def L1_j410_s (σ : St) (ξ : St) (one : Int32) (two : Int32) : St := (if (L1_j331 σ ξ one two) = (0 : Int32) then σ else (if (24 : Int32) ≤ (L1_j383 σ ξ one two) then σ else (if (L1_j343 σ ξ one two) = (0 : Int32) then (sS σ 3 (ix (((6 : Int32) * (one - one / ((σ 7 (ix (3 : Int32))) + (1 : Int32)) * ((σ 7 (ix (3 : Int32))) + (1 : Int32)))) + (3 : Int32))) ((L1_j383 σ ξ one two) + ((32 : Int32) * ((two / (29 : Int32)) - (two / (29 : Int32)) / (24 : Int32) * (24 : Int32))))) else σ)))
def L1_j459 (σ : St) (ξ : St) (one : Int32) (two : Int32) : Int32 := (if (L1_j331 σ ξ one two) = (0 : Int32) then (-3000000 : Int32) else (if (L1_j383 σ ξ one two) = (24 : Int32) then (-2000000 : Int32) else (if (L1_j343 σ ξ one two) = (0 : Int32) then (0 : Int32) else (-1000000 : Int32))))
def L1_j490 (σ : St) (ξ : St) (one : Int32) (two : Int32) : Int32 := (if (DV_7 ξ (one - one / ((σ 7 (ix (3 : Int32))) + (1 : Int32)) * ((σ 7 (ix (3 : Int32))) + (1 : Int32))) (L1_j383 σ ξ one two) ((two / (29 : Int32)) - (two / (29 : Int32)) / (24 : Int32) * (24 : Int32))) = (L1_j459 σ ξ one two) then (1 : Int32) else (0 : Int32))
theorem L1_j490_b (σ : St) (ξ : St) (one : Int32) (two : Int32) : L1_j490 σ ξ one two = 0 ∨ L1_j490 σ ξ one two = 1 := by
  unfold L1_j490
  (repeat' split) <;> first | exact Or.inl (by with_reducible rfl) | exact Or.inr (by with_reducible rfl)
def L1 (σ : St) (ξ : St) (one : Int32) (two : Int32) : Int32 := (L1_j490 σ ξ one two)
def L1_s (σ : St) (ξ : St) (one : Int32) (two : Int32) : St := (L1_j410_s σ ξ one two)
def L1_x (σ : St) (ξ : St) (one : Int32) (two : Int32) : St := (M_hours_s ξ (one - one / ((σ 7 (ix (3 : Int32))) + (1 : Int32)) * ((σ 7 (ix (3 : Int32))) + (1 : Int32))) (L1_j383 σ ξ one two) ((two / (29 : Int32)) - (two / (29 : Int32)) / (24 : Int32) * (24 : Int32)))
theorem L1_b (σ : St) (ξ : St) (one : Int32) (two : Int32) : (L1 σ ξ one two) = 0 ∨ (L1 σ ξ one two) = 1 := by
  unfold L1
  (repeat' split) <;> first | exact Or.inl (by with_reducible rfl) | exact Or.inr (by with_reducible rfl) | exact L1_j490_b ..
theorem L1_is {σ ξ : St} {one two : Int32} (hI : IL σ) (h1 : vp_in one 60000) (c : ¬ L1_j331 σ ξ one two = 0) : vp_in (one - one / ((σ 7 (ix (3 : Int32))) + (1 : Int32)) * ((σ 7 (ix (3 : Int32))) + (1 : Int32))) (ix (σ 7 (ix (3 : Int32)))) ∧ vp_in (one - one / ((σ 7 (ix (3 : Int32))) + (1 : Int32)) * ((σ 7 (ix (3 : Int32))) + (1 : Int32))) 10 := by
  unfold L1_j331 at c
  split at c
  · exact absurd rfl c
  · have h := below (remv h1 (by decide) (IL_7_3 hI) (by decide)) (by decide) (IL_7_3 hI) (by decide) (by assumption)
    exact ⟨h, vp_up h (cnt (N := 10) (IL_7_3 hI) (by decide)).2⟩
set_option maxRecDepth 100000 in
set_option maxHeartbeats 4000000 in
theorem c_L1 {l : Launch} {D : va_G} {ca : Nat → Nat} {h hx : fH} {r : Nat} {α : Nat → Nat} {σ ξ : St} (hL : LH ca hx h α σ) (hX : RA ca hx r ξ) (hIX : InvX ξ) (hIO : InvO ξ) (hQ : LQ ξ σ) (one : Int32) (two : Int32) (h1 : vp_in one 60000) (h2 : vp_in two 60000) : FM l D ca yL_isLit (.code yL_isLit cL_isLit 25 (some .boolean)) { frames := 11, cells := 4, slots := 24, locals := 220 } [.ref r, .ref (α 0), .ref (α 1), .ref (α 2), .ref (α 3), .ref (α 4), .ref (α 7), .int (1 : Int32), .int one, .int two] h (fun v h2 => v = some (.int (L1 σ ξ one two)) ∧ ∃ hx2, LH ca hx2 h2 α (L1_s σ ξ one two) ∧ RA ca hx2 r (L1_x σ ξ one two)) noX := by
  refine FM.of [some (.ref r), some (.ref (α 0)), some (.ref (α 1)), some (.ref (α 2)), some (.ref (α 3)), some (.ref (α 4)), some (.ref (α 7)), some (.int (1 : Int32)), some (.int one), some (.int two), none, none, none, none, none, none, none, none, none, none, none, none, none, none, none] (by decide) (Nat.le_of_ble_eq_true rfl) rfl ?_
  rintro K X rfl rfl rfl
  have hI := IL_of hQ hIX
  have q_v : (L1 σ ξ one two) = (L1_j490 σ ξ one two) := rfl
  have q_s : (L1_s σ ξ one two) = (L1_j410_s σ ξ one two) := rfl
  have q_x : (L1_x σ ξ one two) = (M_hours_s ξ (one - one / ((σ 7 (ix (3 : Int32))) + (1 : Int32)) * ((σ 7 (ix (3 : Int32))) + (1 : Int32))) (L1_j383 σ ξ one two) ((two / (29 : Int32)) - (two / (29 : Int32)) / (24 : Int32) * (24 : Int32))) := rfl
  refine J_iload_7 X dL_isLit_0 ?_
  refine J_if_ne (tgt := 314) X dL_isLit_2 (by decide) (fun _ => ?_) (fun c => absurd c (by decide))
  refine J_iload_8 X dL_isLit_314 ?_
  refine J_aload_6 X dL_isLit_316 ?_
  refine J_iconst (v := 3) X dL_isLit_318 rfl ?_
  refine JL_ld X hL.la 7 (by decide) (vp_up (vp_in_nI (n := 3) (N := 4) (by decide) (by decide)) (by decide)) dL_isLit_319 ?_
  refine J_iconst (v := 1) X dL_isLit_320 rfl ?_
  refine J_iadd X dL_isLit_321 ?_
  refine J_irem X dL_isLit_322 (gp1 (IL_7_3 hI) (by decide)) ?_
  refine J_istore_10 X dL_isLit_323 rfl (by decide) ?_
  refine J_iload_10 X dL_isLit_325 ?_
  refine J_aload_6 X dL_isLit_327 ?_
  refine J_iconst (v := 3) X dL_isLit_329 rfl ?_
  refine JL_ld X hL.la 7 (by decide) (vp_up (vp_in_nI (n := 3) (N := 4) (by decide) (by decide)) (by decide)) dL_isLit_330 ?_
  have K331_339 : ∀ (v331_0 : Int32), v331_0 = (L1_j331 σ ξ one two) → J K h [some (.ref r), some (.ref (α 0)), some (.ref (α 1)), some (.ref (α 2)), some (.ref (α 3)), some (.ref (α 4)), some (.ref (α 7)), some (.int (1 : Int32)), some (.int one), some (.int two), some (.int (one - one / ((σ 7 (ix (3 : Int32))) + (1 : Int32)) * ((σ 7 (ix (3 : Int32))) + (1 : Int32)))), none, none, none, none, none, none, none, none, none, none, none, none, none, none] [.int v331_0] 339 0 0 := by
    intro v331_0 ev331_0
    try rw [ev331_0]
    clear ev331_0
    refine J_istore_11 X dL_isLit_339 rfl (by decide) ?_
    refine J_iload_11 X dL_isLit_341 ?_
    have K343_368 : ∀ (v343_0 : Int32), v343_0 = (L1_j343 σ ξ one two) → J K h [some (.ref r), some (.ref (α 0)), some (.ref (α 1)), some (.ref (α 2)), some (.ref (α 3)), some (.ref (α 4)), some (.ref (α 7)), some (.int (1 : Int32)), some (.int one), some (.int two), some (.int (one - one / ((σ 7 (ix (3 : Int32))) + (1 : Int32)) * ((σ 7 (ix (3 : Int32))) + (1 : Int32)))), some (.int (L1_j331 σ ξ one two)), none, none, none, none, none, none, none, none, none, none, none, none, none] [.int v343_0] 368 0 0 := by
      intro v343_0 ev343_0
      try rw [ev343_0]
      clear ev343_0
      refine J_istore_12 X dL_isLit_368 rfl (by decide) ?_
      refine J_iload_7 X dL_isLit_370 ?_
      refine J_iconst (v := 1) X dL_isLit_372 rfl ?_
      refine J_icmp_ne (tgt := 499) X dL_isLit_373 (by decide) (fun c => absurd (by decide) c) (fun _ => ?_)
      refine J_iload_9 X dL_isLit_376 ?_
      refine J_bipush (v := (29 : Int32)) X dL_isLit_378 (by decide) ?_
      refine J_irem X dL_isLit_380 (by decide) ?_
      refine J_bipush (v := (28 : Int32)) X dL_isLit_381 (by decide) ?_
      have K383_396 : ∀ (v383_0 : Int32), v383_0 = (L1_j383 σ ξ one two) → J K h [some (.ref r), some (.ref (α 0)), some (.ref (α 1)), some (.ref (α 2)), some (.ref (α 3)), some (.ref (α 4)), some (.ref (α 7)), some (.int (1 : Int32)), some (.int one), some (.int two), some (.int (one - one / ((σ 7 (ix (3 : Int32))) + (1 : Int32)) * ((σ 7 (ix (3 : Int32))) + (1 : Int32)))), some (.int (L1_j331 σ ξ one two)), some (.int (L1_j343 σ ξ one two)), none, none, none, none, none, none, none, none, none, none, none, none] [.int v383_0] 396 0 0 := by
        intro v383_0 ev383_0
        try rw [ev383_0]
        clear ev383_0
        refine J_istore_13 X dL_isLit_396 rfl (by decide) ?_
        refine J_iload_9 X dL_isLit_398 ?_
        refine J_bipush (v := (29 : Int32)) X dL_isLit_400 (by decide) ?_
        refine J_idiv X dL_isLit_402 (by decide) ?_
        refine J_bipush (v := (24 : Int32)) X dL_isLit_403 (by decide) ?_
        refine J_irem X dL_isLit_405 (by decide) ?_
        refine J_istore_14 X dL_isLit_406 rfl (by decide) ?_
        refine J_iload_11 X dL_isLit_408 ?_
        have K410_443 : ∀ hj11 : fH, LH (kca K) hx hj11 α (L1_j410_s σ ξ one two) → J K hj11 [some (.ref r), some (.ref (α 0)), some (.ref (α 1)), some (.ref (α 2)), some (.ref (α 3)), some (.ref (α 4)), some (.ref (α 7)), some (.int (1 : Int32)), some (.int one), some (.int two), some (.int (one - one / ((σ 7 (ix (3 : Int32))) + (1 : Int32)) * ((σ 7 (ix (3 : Int32))) + (1 : Int32)))), some (.int (L1_j331 σ ξ one two)), some (.int (L1_j343 σ ξ one two)), some (.int (L1_j383 σ ξ one two)), some (.int ((two / (29 : Int32)) - (two / (29 : Int32)) / (24 : Int32) * (24 : Int32))), none, none, none, none, none, none, none, none, none, none] [] 443 0 0 := by
          intro hj11 hRj11
          refine J_aload_0 X dL_isLit_443 ?_
          refine J_bipush (v := (7 : Int32)) X dL_isLit_444 (by decide) ?_
          refine J_iload_10 X dL_isLit_446 ?_
          refine J_iload_13 X dL_isLit_448 ?_
          refine J_iload_14 X dL_isLit_450 ?_
          refine J_iconst (v := 0) X dL_isLit_452 rfl ?_
          refine J_iconst (v := 0) X dL_isLit_453 rfl ?_
          obtain ⟨la, eh, hap, hLA, hα⟩ := hRj11
          subst eh
          refine J_callSW X ((c_D_7 hX hIX hIO (one - one / ((σ 7 (ix (3 : Int32))) + (1 : Int32)) * ((σ 7 (ix (3 : Int32))) + (1 : Int32))) (L1_j383 σ ξ one two) ((two / (29 : Int32)) - (two / (29 : Int32)) / (24 : Int32) * (24 : Int32)) (0 : Int32) (0 : Int32)).frame hap) (And.intro gw_2_177 cw_L_does) rfl rfl (Nat.le_of_ble_eq_true rfl) dL_isLit_454 rfl (fun v h12 e => ?_) (fun E h12 e => by obtain ⟨_, q, _⟩ := e; exact q.elim)
          obtain ⟨hx12, ⟨e0, hX12⟩, hap12, eh⟩ := e
          subst e0
          subst eh
          have hR12 : LH (kca K) hx12 (un hx12 la) α (L1_j410_s σ ξ one two) := ⟨la, rfl, hap12, hLA, hα⟩
          show J K (un hx12 la) [some (.ref r), some (.ref (α 0)), some (.ref (α 1)), some (.ref (α 2)), some (.ref (α 3)), some (.ref (α 4)), some (.ref (α 7)), some (.int (1 : Int32)), some (.int one), some (.int two), some (.int (one - one / ((σ 7 (ix (3 : Int32))) + (1 : Int32)) * ((σ 7 (ix (3 : Int32))) + (1 : Int32)))), some (.int (L1_j331 σ ξ one two)), some (.int (L1_j343 σ ξ one two)), some (.int (L1_j383 σ ξ one two)), some (.int ((two / (29 : Int32)) - (two / (29 : Int32)) / (24 : Int32) * (24 : Int32))), none, none, none, none, none, none, none, none, none, none] [.int (DV_7 ξ (one - one / ((σ 7 (ix (3 : Int32))) + (1 : Int32)) * ((σ 7 (ix (3 : Int32))) + (1 : Int32))) (L1_j383 σ ξ one two) ((two / (29 : Int32)) - (two / (29 : Int32)) / (24 : Int32) * (24 : Int32)))] 457 4 24
          refine J_iload_11 X dL_isLit_457 ?_
          have K459_490 : ∀ (v459_0 : Int32), v459_0 = (L1_j459 σ ξ one two) → J K (un hx12 la) [some (.ref r), some (.ref (α 0)), some (.ref (α 1)), some (.ref (α 2)), some (.ref (α 3)), some (.ref (α 4)), some (.ref (α 7)), some (.int (1 : Int32)), some (.int one), some (.int two), some (.int (one - one / ((σ 7 (ix (3 : Int32))) + (1 : Int32)) * ((σ 7 (ix (3 : Int32))) + (1 : Int32)))), some (.int (L1_j331 σ ξ one two)), some (.int (L1_j343 σ ξ one two)), some (.int (L1_j383 σ ξ one two)), some (.int ((two / (29 : Int32)) - (two / (29 : Int32)) / (24 : Int32) * (24 : Int32))), none, none, none, none, none, none, none, none, none, none] [.int v459_0, .int (DV_7 ξ (one - one / ((σ 7 (ix (3 : Int32))) + (1 : Int32)) * ((σ 7 (ix (3 : Int32))) + (1 : Int32))) (L1_j383 σ ξ one two) ((two / (29 : Int32)) - (two / (29 : Int32)) / (24 : Int32) * (24 : Int32)))] 490 4 24 := by
            intro v459_0 ev459_0
            try rw [ev459_0]
            clear ev459_0
            have K490_498 : ∀ (v490_0 : Int32), v490_0 = (L1_j490 σ ξ one two) → J K (un hx12 la) [some (.ref r), some (.ref (α 0)), some (.ref (α 1)), some (.ref (α 2)), some (.ref (α 3)), some (.ref (α 4)), some (.ref (α 7)), some (.int (1 : Int32)), some (.int one), some (.int two), some (.int (one - one / ((σ 7 (ix (3 : Int32))) + (1 : Int32)) * ((σ 7 (ix (3 : Int32))) + (1 : Int32)))), some (.int (L1_j331 σ ξ one two)), some (.int (L1_j343 σ ξ one two)), some (.int (L1_j383 σ ξ one two)), some (.int ((two / (29 : Int32)) - (two / (29 : Int32)) / (24 : Int32) * (24 : Int32))), none, none, none, none, none, none, none, none, none, none] [.int v490_0] 498 4 24 := by
              intro v490_0 ev490_0
              try rw [ev490_0]
              clear ev490_0
              exact J_zret X rfl (L1_j490_b ..) rfl ⟨by rw [q_v], hx12, by rw [q_s]; exact hR12, by rw [q_x]; exact hX12⟩ dL_isLit_498
            have j490_0 : L1_j490 σ ξ one two = (if (DV_7 ξ (one - one / ((σ 7 (ix (3 : Int32))) + (1 : Int32)) * ((σ 7 (ix (3 : Int32))) + (1 : Int32))) (L1_j383 σ ξ one two) ((two / (29 : Int32)) - (two / (29 : Int32)) / (24 : Int32) * (24 : Int32))) = (L1_j459 σ ξ one two) then (1 : Int32) else (0 : Int32)) := rfl
            refine J_icmp_ne (tgt := 497) X dL_isLit_490 (by decide) (fun c490 => ?_) (fun c490 => ?_)
            · skip
              rw [if_neg c490] at j490_0
              refine J_iconst (v := 0) X dL_isLit_497 rfl ?_
              exact K490_498 _ j490_0.symm
            · skip
              rw [if_pos c490] at j490_0
              refine J_iconst (v := 1) X dL_isLit_493 rfl ?_
              refine J_goto (tgt := 498) X dL_isLit_494 (by decide) ?_
              exact K490_498 _ j490_0.symm
          have j459_0 : L1_j459 σ ξ one two = (if (L1_j331 σ ξ one two) = (0 : Int32) then (-3000000 : Int32) else (if (L1_j383 σ ξ one two) = (24 : Int32) then (-2000000 : Int32) else (if (L1_j343 σ ξ one two) = (0 : Int32) then (0 : Int32) else (-1000000 : Int32)))) := rfl
          refine J_if_ne (tgt := 467) X dL_isLit_459 (by decide) (fun c459 => ?_) (fun c459 => ?_)
          · skip
            rw [if_neg c459] at j459_0
            refine J_iload_13 X dL_isLit_467 ?_
            refine J_bipush (v := (24 : Int32)) X dL_isLit_469 (by decide) ?_
            refine J_icmp_ne (tgt := 479) X dL_isLit_471 (by decide) (fun c471 => ?_) (fun c471 => ?_)
            · skip
              rw [if_neg c471] at j459_0
              refine J_iload_12 X dL_isLit_479 ?_
              refine J_if_eq (tgt := 489) X dL_isLit_481 (by decide) (fun c481 => ?_) (fun c481 => ?_)
              · skip
                rw [if_pos c481] at j459_0
                refine J_iconst (v := 0) X dL_isLit_489 rfl ?_
                exact K459_490 _ j459_0.symm
              · skip
                rw [if_neg c481] at j459_0
                refine J_ldc (v := (-1000000 : Int32)) X dL_isLit_484 gw_4_74 ?_
                refine J_goto (tgt := 490) X dL_isLit_486 (by decide) ?_
                exact K459_490 _ j459_0.symm
            · skip
              rw [if_pos c471] at j459_0
              refine J_ldc (v := (-2000000 : Int32)) X dL_isLit_474 gw_4_73 ?_
              refine J_goto (tgt := 490) X dL_isLit_476 (by decide) ?_
              exact K459_490 _ j459_0.symm
          · skip
            rw [if_pos c459] at j459_0
            refine J_ldc (v := (-3000000 : Int32)) X dL_isLit_462 gw_4_72 ?_
            refine J_goto (tgt := 490) X dL_isLit_464 (by decide) ?_
            exact K459_490 _ j459_0.symm
        have j410_0 : L1_j410_s σ ξ one two = (if (L1_j331 σ ξ one two) = (0 : Int32) then σ else (if (24 : Int32) ≤ (L1_j383 σ ξ one two) then σ else (if (L1_j343 σ ξ one two) = (0 : Int32) then (sS σ 3 (ix (((6 : Int32) * (one - one / ((σ 7 (ix (3 : Int32))) + (1 : Int32)) * ((σ 7 (ix (3 : Int32))) + (1 : Int32)))) + (3 : Int32))) ((L1_j383 σ ξ one two) + ((32 : Int32) * ((two / (29 : Int32)) - (two / (29 : Int32)) / (24 : Int32) * (24 : Int32))))) else σ))) := rfl
        refine J_if_eq (tgt := 443) X dL_isLit_410 (by decide) (fun c410 => ?_) (fun c410 => ?_)
        · skip
          rw [if_pos c410] at j410_0
          exact K410_443 _ (by rw [j410_0]; exact hL)
        · skip
          rw [if_neg c410] at j410_0
          refine J_iload_13 X dL_isLit_413 ?_
          refine J_bipush (v := (24 : Int32)) X dL_isLit_415 (by decide) ?_
          refine J_icmp_ge (tgt := 443) X dL_isLit_417 (by decide) (fun c417 => ?_) (fun c417 => ?_)
          · skip
            rw [if_pos c417] at j410_0
            exact K410_443 _ (by rw [j410_0]; exact hL)
          · skip
            rw [if_neg c417] at j410_0
            refine J_iload_12 X dL_isLit_420 ?_
            refine J_if_ne (tgt := 443) X dL_isLit_422 (by decide) (fun c422 => ?_) (fun c422 => ?_)
            · skip
              rw [if_neg c422] at j410_0
              exact K410_443 _ (by rw [j410_0]; exact hL)
            · skip
              rw [if_pos c422] at j410_0
              refine J_aload_4 X dL_isLit_425 ?_
              refine J_bipush (v := (6 : Int32)) X dL_isLit_427 (by decide) ?_
              refine J_iload_10 X dL_isLit_429 ?_
              refine J_imul X dL_isLit_431 ?_
              refine J_iconst (v := 3) X dL_isLit_432 rfl ?_
              refine J_iadd X dL_isLit_433 ?_
              refine J_iload_13 X dL_isLit_434 ?_
              refine J_bipush (v := (32 : Int32)) X dL_isLit_436 (by decide) ?_
              refine J_iload_14 X dL_isLit_438 ?_
              refine J_imul X dL_isLit_440 ?_
              refine J_iadd X dL_isLit_441 ?_
              refine JL_st X hL 3 (by decide) (vp_up (vr_add (vr_mul (vp_in_nI (n := 6) (N := 7) (by decide) (by decide)) (L1_is (ξ := ξ) (two := two) hI h1 c410).2 (by decide)) (vp_in_nI (n := 3) (N := 4) (by decide) (by decide)) (by decide)) (by decide)) dL_isLit_442 (fun h13 hR13 => ?_)
              exact K410_443 _ (by rw [j410_0]; exact hR13)
      have j383_0 : L1_j383 σ ξ one two = (if (two - two / (29 : Int32) * (29 : Int32)) = (28 : Int32) then (24 : Int32) else (two - two / (24 : Int32) * (24 : Int32))) := rfl
      refine J_icmp_ne (tgt := 391) X dL_isLit_383 (by decide) (fun c383 => ?_) (fun c383 => ?_)
      · skip
        rw [if_neg c383] at j383_0
        refine J_iload_9 X dL_isLit_391 ?_
        refine J_bipush (v := (24 : Int32)) X dL_isLit_393 (by decide) ?_
        refine J_irem X dL_isLit_395 (by decide) ?_
        exact K383_396 _ j383_0.symm
      · skip
        rw [if_pos c383] at j383_0
        refine J_bipush (v := (24 : Int32)) X dL_isLit_386 (by decide) ?_
        refine J_goto (tgt := 396) X dL_isLit_388 (by decide) ?_
        exact K383_396 _ j383_0.symm
    have j343_0 : L1_j343 σ ξ one two = (if (L1_j331 σ ξ one two) = (0 : Int32) then (0 : Int32) else (if (σ 3 (ix (((6 : Int32) * (one - one / ((σ 7 (ix (3 : Int32))) + (1 : Int32)) * ((σ 7 (ix (3 : Int32))) + (1 : Int32)))) + (5 : Int32)))) ≤ (σ 7 (ix (0 : Int32))) then (0 : Int32) else (1 : Int32))) := rfl
    refine J_if_eq (tgt := 367) X dL_isLit_343 (by decide) (fun c343 => ?_) (fun c343 => ?_)
    · skip
      rw [if_pos c343] at j343_0
      refine J_iconst (v := 0) X dL_isLit_367 rfl ?_
      exact K343_368 _ j343_0.symm
    · skip
      rw [if_neg c343] at j343_0
      refine J_aload_4 X dL_isLit_346 ?_
      refine J_bipush (v := (6 : Int32)) X dL_isLit_348 (by decide) ?_
      refine J_iload_10 X dL_isLit_350 ?_
      refine J_imul X dL_isLit_352 ?_
      refine J_iconst (v := 5) X dL_isLit_353 rfl ?_
      refine J_iadd X dL_isLit_354 ?_
      refine JL_ld X hL.la 3 (by decide) (vp_up (vr_add (vr_mul (vp_in_nI (n := 6) (N := 7) (by decide) (by decide)) (L1_is (ξ := ξ) (two := two) hI h1 c343).2 (by decide)) (vp_in_nI (n := 5) (N := 6) (by decide) (by decide)) (by decide)) (by decide)) dL_isLit_355 ?_
      refine J_aload_6 X dL_isLit_356 ?_
      refine J_iconst (v := 0) X dL_isLit_358 rfl ?_
      refine JL_ld X hL.la 7 (by decide) (vp_up (vp_in_nI (n := 0) (N := 1) (by decide) (by decide)) (by decide)) dL_isLit_359 ?_
      refine J_icmp_le (tgt := 367) X dL_isLit_360 (by decide) (fun c360 => ?_) (fun c360 => ?_)
      · skip
        rw [if_pos c360] at j343_0
        refine J_iconst (v := 0) X dL_isLit_367 rfl ?_
        exact K343_368 _ j343_0.symm
      · skip
        rw [if_neg c360] at j343_0
        refine J_iconst (v := 1) X dL_isLit_363 rfl ?_
        refine J_goto (tgt := 368) X dL_isLit_364 (by decide) ?_
        exact K343_368 _ j343_0.symm
  have j331_0 : L1_j331 σ ξ one two = (if (σ 7 (ix (3 : Int32))) ≤ (one - one / ((σ 7 (ix (3 : Int32))) + (1 : Int32)) * ((σ 7 (ix (3 : Int32))) + (1 : Int32))) then (0 : Int32) else (1 : Int32)) := rfl
  refine J_icmp_ge (tgt := 338) X dL_isLit_331 (by decide) (fun c331 => ?_) (fun c331 => ?_)
  · skip
    rw [if_pos c331] at j331_0
    refine J_iconst (v := 0) X dL_isLit_338 rfl ?_
    exact K331_339 _ j331_0.symm
  · skip
    rw [if_neg c331] at j331_0
    refine J_iconst (v := 1) X dL_isLit_334 rfl ?_
    refine J_goto (tgt := 339) X dL_isLit_335 (by decide) ?_
    exact K331_339 _ j331_0.symm
def L2_j331 (σ : St) (ξ : St) (one : Int32) (two : Int32) : Int32 := (if (σ 7 (ix (3 : Int32))) ≤ (one - one / ((σ 7 (ix (3 : Int32))) + (1 : Int32)) * ((σ 7 (ix (3 : Int32))) + (1 : Int32))) then (0 : Int32) else (1 : Int32))
theorem L2_j331_b (σ : St) (ξ : St) (one : Int32) (two : Int32) : L2_j331 σ ξ one two = 0 ∨ L2_j331 σ ξ one two = 1 := by
  unfold L2_j331
  (repeat' split) <;> first | exact Or.inl (by with_reducible rfl) | exact Or.inr (by with_reducible rfl)
def L2_j343 (σ : St) (ξ : St) (one : Int32) (two : Int32) : Int32 := (if (L2_j331 σ ξ one two) = (0 : Int32) then (0 : Int32) else (if (σ 3 (ix (((6 : Int32) * (one - one / ((σ 7 (ix (3 : Int32))) + (1 : Int32)) * ((σ 7 (ix (3 : Int32))) + (1 : Int32)))) + (5 : Int32)))) ≤ (σ 7 (ix (0 : Int32))) then (0 : Int32) else (1 : Int32)))
theorem L2_j343_b (σ : St) (ξ : St) (one : Int32) (two : Int32) : L2_j343 σ ξ one two = 0 ∨ L2_j343 σ ξ one two = 1 := by
  unfold L2_j343
  (repeat' split) <;> first | exact Or.inl (by with_reducible rfl) | exact Or.inr (by with_reducible rfl)
def L2_j522 (σ : St) (ξ : St) (one : Int32) (two : Int32) : Int32 := (if (σ 3 (ix ((6 : Int32) * (one - one / ((σ 7 (ix (3 : Int32))) + (1 : Int32)) * ((σ 7 (ix (3 : Int32))) + (1 : Int32)))))) ≤ (127 : Int32) then (0 : Int32) else (1 : Int32))
theorem L2_j522_b (σ : St) (ξ : St) (one : Int32) (two : Int32) : L2_j522 σ ξ one two = 0 ∨ L2_j522 σ ξ one two = 1 := by
  unfold L2_j522
  (repeat' split) <;> first | exact Or.inl (by with_reducible rfl) | exact Or.inr (by with_reducible rfl)
def L2_j555 (σ : St) (ξ : St) (one : Int32) (two : Int32) : Int32 := (if (two - two / (2 : Int32) * (2 : Int32)) = (0 : Int32) then (128 : Int32) else (0 : Int32))
def L2_j574 (σ : St) (ξ : St) (one : Int32) (two : Int32) : Int32 := (if (two - two / (2 : Int32) * (2 : Int32)) = (0 : Int32) then (1 : Int32) else (0 : Int32))
theorem L2_j574_b (σ : St) (ξ : St) (one : Int32) (two : Int32) : L2_j574 σ ξ one two = 0 ∨ L2_j574 σ ξ one two = 1 := by
  unfold L2_j574
  (repeat' split) <;> first | exact Or.inl (by with_reducible rfl) | exact Or.inr (by with_reducible rfl)
def L2_j587 (σ : St) (ξ : St) (one : Int32) (two : Int32) : Int32 := (if (M_exempt ξ (one - one / ((σ 7 (ix (3 : Int32))) + (1 : Int32)) * ((σ 7 (ix (3 : Int32))) + (1 : Int32))) (L2_j574 σ ξ one two)) = (L2_j522 σ ξ one two) then (1 : Int32) else (0 : Int32))
theorem L2_j587_b (σ : St) (ξ : St) (one : Int32) (two : Int32) : L2_j587 σ ξ one two = 0 ∨ L2_j587 σ ξ one two = 1 := by
  unfold L2_j587
  (repeat' split) <;> first | exact Or.inl (by with_reducible rfl) | exact Or.inr (by with_reducible rfl)
def L2 (σ : St) (ξ : St) (one : Int32) (two : Int32) : Int32 := (if (L2_j331 σ ξ one two) = (0 : Int32) then (1 : Int32) else (L2_j587 σ ξ one two))
def L2_s (σ : St) (ξ : St) (one : Int32) (two : Int32) : St := (if (L2_j331 σ ξ one two) = (0 : Int32) then σ else (sS σ 3 (ix ((6 : Int32) * (one - one / ((σ 7 (ix (3 : Int32))) + (1 : Int32)) * ((σ 7 (ix (3 : Int32))) + (1 : Int32))))) (((σ 3 (ix ((6 : Int32) * (one - one / ((σ 7 (ix (3 : Int32))) + (1 : Int32)) * ((σ 7 (ix (3 : Int32))) + (1 : Int32)))))) - (σ 3 (ix ((6 : Int32) * (one - one / ((σ 7 (ix (3 : Int32))) + (1 : Int32)) * ((σ 7 (ix (3 : Int32))) + (1 : Int32)))))) / (128 : Int32) * (128 : Int32)) + (L2_j555 σ ξ one two))))
def L2_x (σ : St) (ξ : St) (one : Int32) (two : Int32) : St := (if (L2_j331 σ ξ one two) = (0 : Int32) then ξ else (M_exempt_s ξ (one - one / ((σ 7 (ix (3 : Int32))) + (1 : Int32)) * ((σ 7 (ix (3 : Int32))) + (1 : Int32))) (L2_j574 σ ξ one two)))
theorem L2_b (σ : St) (ξ : St) (one : Int32) (two : Int32) : (L2 σ ξ one two) = 0 ∨ (L2 σ ξ one two) = 1 := by
  unfold L2
  (repeat' split) <;> first | exact Or.inl (by with_reducible rfl) | exact Or.inr (by with_reducible rfl) | exact L2_j587_b ..
theorem L2_is {σ ξ : St} {one two : Int32} (hI : IL σ) (h1 : vp_in one 60000) (c : ¬ L2_j331 σ ξ one two = 0) : vp_in (one - one / ((σ 7 (ix (3 : Int32))) + (1 : Int32)) * ((σ 7 (ix (3 : Int32))) + (1 : Int32))) (ix (σ 7 (ix (3 : Int32)))) ∧ vp_in (one - one / ((σ 7 (ix (3 : Int32))) + (1 : Int32)) * ((σ 7 (ix (3 : Int32))) + (1 : Int32))) 10 := by
  unfold L2_j331 at c
  split at c
  · exact absurd rfl c
  · have h := below (remv h1 (by decide) (IL_7_3 hI) (by decide)) (by decide) (IL_7_3 hI) (by decide) (by assumption)
    exact ⟨h, vp_up h (cnt (N := 10) (IL_7_3 hI) (by decide)).2⟩
theorem exempt_ok {ξ : St} (hI : InvX ξ) {p1 : Int32} (p2 : Int32) (h : vp_in p1 (ix (ξ 13 0))) : M_exempt_s ξ p1 p2 41 0 = 0 := by
  unfold M_exempt_s M_exempt_j6
  rw [if_neg (fun z => (lamp_iff hI).mp z h), if_pos (fails_0 ξ)]
  rfl
set_option maxRecDepth 100000 in
set_option maxHeartbeats 4000000 in
theorem c_L2 {l : Launch} {D : va_G} {ca : Nat → Nat} {h hx : fH} {r : Nat} {α : Nat → Nat} {σ ξ : St} (hL : LH ca hx h α σ) (hX : RA ca hx r ξ) (hIX : InvX ξ) (hIO : InvO ξ) (hQ : LQ ξ σ) (one : Int32) (two : Int32) (h1 : vp_in one 60000) (h2 : vp_in two 60000) : FM l D ca yL_isLit (.code yL_isLit cL_isLit 25 (some .boolean)) { frames := 9, cells := 1, slots := 6, locals := 170 } [.ref r, .ref (α 0), .ref (α 1), .ref (α 2), .ref (α 3), .ref (α 4), .ref (α 7), .int (2 : Int32), .int one, .int two] h (fun v h2 => v = some (.int (L2 σ ξ one two)) ∧ ∃ hx2, LH ca hx2 h2 α (L2_s σ ξ one two) ∧ RA ca hx2 r (L2_x σ ξ one two)) noX := by
  refine FM.of [some (.ref r), some (.ref (α 0)), some (.ref (α 1)), some (.ref (α 2)), some (.ref (α 3)), some (.ref (α 4)), some (.ref (α 7)), some (.int (2 : Int32)), some (.int one), some (.int two), none, none, none, none, none, none, none, none, none, none, none, none, none, none, none] (by decide) (Nat.le_of_ble_eq_true rfl) rfl ?_
  rintro K X rfl rfl rfl
  have hI := IL_of hQ hIX
  have q_v : (L2 σ ξ one two) = (if (L2_j331 σ ξ one two) = (0 : Int32) then (1 : Int32) else (L2_j587 σ ξ one two)) := rfl
  have q_s : (L2_s σ ξ one two) = (if (L2_j331 σ ξ one two) = (0 : Int32) then σ else (sS σ 3 (ix ((6 : Int32) * (one - one / ((σ 7 (ix (3 : Int32))) + (1 : Int32)) * ((σ 7 (ix (3 : Int32))) + (1 : Int32))))) (((σ 3 (ix ((6 : Int32) * (one - one / ((σ 7 (ix (3 : Int32))) + (1 : Int32)) * ((σ 7 (ix (3 : Int32))) + (1 : Int32)))))) - (σ 3 (ix ((6 : Int32) * (one - one / ((σ 7 (ix (3 : Int32))) + (1 : Int32)) * ((σ 7 (ix (3 : Int32))) + (1 : Int32)))))) / (128 : Int32) * (128 : Int32)) + (L2_j555 σ ξ one two)))) := rfl
  have q_x : (L2_x σ ξ one two) = (if (L2_j331 σ ξ one two) = (0 : Int32) then ξ else (M_exempt_s ξ (one - one / ((σ 7 (ix (3 : Int32))) + (1 : Int32)) * ((σ 7 (ix (3 : Int32))) + (1 : Int32))) (L2_j574 σ ξ one two))) := rfl
  refine J_iload_7 X dL_isLit_0 ?_
  refine J_if_ne (tgt := 314) X dL_isLit_2 (by decide) (fun _ => ?_) (fun c => absurd c (by decide))
  refine J_iload_8 X dL_isLit_314 ?_
  refine J_aload_6 X dL_isLit_316 ?_
  refine J_iconst (v := 3) X dL_isLit_318 rfl ?_
  refine JL_ld X hL.la 7 (by decide) (vp_up (vp_in_nI (n := 3) (N := 4) (by decide) (by decide)) (by decide)) dL_isLit_319 ?_
  refine J_iconst (v := 1) X dL_isLit_320 rfl ?_
  refine J_iadd X dL_isLit_321 ?_
  refine J_irem X dL_isLit_322 (gp1 (IL_7_3 hI) (by decide)) ?_
  refine J_istore_10 X dL_isLit_323 rfl (by decide) ?_
  refine J_iload_10 X dL_isLit_325 ?_
  refine J_aload_6 X dL_isLit_327 ?_
  refine J_iconst (v := 3) X dL_isLit_329 rfl ?_
  refine JL_ld X hL.la 7 (by decide) (vp_up (vp_in_nI (n := 3) (N := 4) (by decide) (by decide)) (by decide)) dL_isLit_330 ?_
  have K331_339 : ∀ (v331_0 : Int32), v331_0 = (L2_j331 σ ξ one two) → J K h [some (.ref r), some (.ref (α 0)), some (.ref (α 1)), some (.ref (α 2)), some (.ref (α 3)), some (.ref (α 4)), some (.ref (α 7)), some (.int (2 : Int32)), some (.int one), some (.int two), some (.int (one - one / ((σ 7 (ix (3 : Int32))) + (1 : Int32)) * ((σ 7 (ix (3 : Int32))) + (1 : Int32)))), none, none, none, none, none, none, none, none, none, none, none, none, none, none] [.int v331_0] 339 0 0 := by
    intro v331_0 ev331_0
    try rw [ev331_0]
    clear ev331_0
    refine J_istore_11 X dL_isLit_339 rfl (by decide) ?_
    refine J_iload_11 X dL_isLit_341 ?_
    have K343_368 : ∀ (v343_0 : Int32), v343_0 = (L2_j343 σ ξ one two) → J K h [some (.ref r), some (.ref (α 0)), some (.ref (α 1)), some (.ref (α 2)), some (.ref (α 3)), some (.ref (α 4)), some (.ref (α 7)), some (.int (2 : Int32)), some (.int one), some (.int two), some (.int (one - one / ((σ 7 (ix (3 : Int32))) + (1 : Int32)) * ((σ 7 (ix (3 : Int32))) + (1 : Int32)))), some (.int (L2_j331 σ ξ one two)), none, none, none, none, none, none, none, none, none, none, none, none, none] [.int v343_0] 368 0 0 := by
      intro v343_0 ev343_0
      try rw [ev343_0]
      clear ev343_0
      refine J_istore_12 X dL_isLit_368 rfl (by decide) ?_
      refine J_iload_7 X dL_isLit_370 ?_
      refine J_iconst (v := 1) X dL_isLit_372 rfl ?_
      refine J_icmp_ne (tgt := 499) X dL_isLit_373 (by decide) (fun _ => ?_) (fun c => absurd c (by decide))
      refine J_iload_7 X dL_isLit_499 ?_
      refine J_iconst (v := 2) X dL_isLit_501 rfl ?_
      refine J_icmp_ne (tgt := 596) X dL_isLit_502 (by decide) (fun c => absurd (by decide) c) (fun _ => ?_)
      refine J_iload_11 X dL_isLit_505 ?_
      refine J_if_ne (tgt := 512) X dL_isLit_507 (by decide) (fun c507 => ?_) (fun c507 => ?_)
      · skip
        rw [if_neg c507] at q_v
        rw [if_neg c507] at q_s
        rw [if_neg c507] at q_x
        refine J_aload_4 X dL_isLit_512 ?_
        refine J_bipush (v := (6 : Int32)) X dL_isLit_514 (by decide) ?_
        refine J_iload_10 X dL_isLit_516 ?_
        refine J_imul X dL_isLit_518 ?_
        refine JL_ld X hL.la 3 (by decide) (vp_up (vr_mul (vp_in_nI (n := 6) (N := 7) (by decide) (by decide)) (L2_is (ξ := ξ) (two := two) hI h1 c507).2 (by decide)) (by decide)) dL_isLit_519 ?_
        refine J_bipush (v := (127 : Int32)) X dL_isLit_520 (by decide) ?_
        have K522_530 : ∀ (v522_0 : Int32), v522_0 = (L2_j522 σ ξ one two) → J K h [some (.ref r), some (.ref (α 0)), some (.ref (α 1)), some (.ref (α 2)), some (.ref (α 3)), some (.ref (α 4)), some (.ref (α 7)), some (.int (2 : Int32)), some (.int one), some (.int two), some (.int (one - one / ((σ 7 (ix (3 : Int32))) + (1 : Int32)) * ((σ 7 (ix (3 : Int32))) + (1 : Int32)))), some (.int (L2_j331 σ ξ one two)), some (.int (L2_j343 σ ξ one two)), none, none, none, none, none, none, none, none, none, none, none, none] [.int v522_0] 530 0 0 := by
          intro v522_0 ev522_0
          try rw [ev522_0]
          clear ev522_0
          refine J_istore_13 X dL_isLit_530 rfl (by decide) ?_
          refine J_aload_4 X dL_isLit_532 ?_
          refine J_bipush (v := (6 : Int32)) X dL_isLit_534 (by decide) ?_
          refine J_iload_10 X dL_isLit_536 ?_
          refine J_imul X dL_isLit_538 ?_
          refine J_aload_4 X dL_isLit_539 ?_
          refine J_bipush (v := (6 : Int32)) X dL_isLit_541 (by decide) ?_
          refine J_iload_10 X dL_isLit_543 ?_
          refine J_imul X dL_isLit_545 ?_
          refine JL_ld X hL.la 3 (by decide) (vp_up (vr_mul (vp_in_nI (n := 6) (N := 7) (by decide) (by decide)) (L2_is (ξ := ξ) (two := two) hI h1 c507).2 (by decide)) (by decide)) dL_isLit_546 ?_
          refine J_sipush (v := (128 : Int32)) X dL_isLit_547 (by decide) ?_
          refine J_irem X dL_isLit_550 (by decide) ?_
          refine J_iload_9 X dL_isLit_551 ?_
          refine J_iconst (v := 2) X dL_isLit_553 rfl ?_
          refine J_irem X dL_isLit_554 (by decide) ?_
          have K555_565 : ∀ (v555_0 : Int32), v555_0 = (L2_j555 σ ξ one two) → J K h [some (.ref r), some (.ref (α 0)), some (.ref (α 1)), some (.ref (α 2)), some (.ref (α 3)), some (.ref (α 4)), some (.ref (α 7)), some (.int (2 : Int32)), some (.int one), some (.int two), some (.int (one - one / ((σ 7 (ix (3 : Int32))) + (1 : Int32)) * ((σ 7 (ix (3 : Int32))) + (1 : Int32)))), some (.int (L2_j331 σ ξ one two)), some (.int (L2_j343 σ ξ one two)), some (.int (L2_j522 σ ξ one two)), none, none, none, none, none, none, none, none, none, none, none] [.int v555_0, .int ((σ 3 (ix ((6 : Int32) * (one - one / ((σ 7 (ix (3 : Int32))) + (1 : Int32)) * ((σ 7 (ix (3 : Int32))) + (1 : Int32)))))) - (σ 3 (ix ((6 : Int32) * (one - one / ((σ 7 (ix (3 : Int32))) + (1 : Int32)) * ((σ 7 (ix (3 : Int32))) + (1 : Int32)))))) / (128 : Int32) * (128 : Int32)), .int ((6 : Int32) * (one - one / ((σ 7 (ix (3 : Int32))) + (1 : Int32)) * ((σ 7 (ix (3 : Int32))) + (1 : Int32)))), .ref (α 3)] 565 0 0 := by
            intro v555_0 ev555_0
            try rw [ev555_0]
            clear ev555_0
            refine J_iadd X dL_isLit_565 ?_
            refine JL_st X hL 3 (by decide) (vp_up (vr_mul (vp_in_nI (n := 6) (N := 7) (by decide) (by decide)) (L2_is (ξ := ξ) (two := two) hI h1 c507).2 (by decide)) (by decide)) dL_isLit_566 (fun h11 hR11 => ?_)
            refine J_aload_0 X dL_isLit_567 ?_
            refine J_iload_10 X dL_isLit_568 ?_
            refine J_iload_9 X dL_isLit_570 ?_
            refine J_iconst (v := 2) X dL_isLit_572 rfl ?_
            refine J_irem X dL_isLit_573 (by decide) ?_
            have K574_582 : ∀ (v574_0 : Int32), v574_0 = (L2_j574 σ ξ one two) → J K h11 [some (.ref r), some (.ref (α 0)), some (.ref (α 1)), some (.ref (α 2)), some (.ref (α 3)), some (.ref (α 4)), some (.ref (α 7)), some (.int (2 : Int32)), some (.int one), some (.int two), some (.int (one - one / ((σ 7 (ix (3 : Int32))) + (1 : Int32)) * ((σ 7 (ix (3 : Int32))) + (1 : Int32)))), some (.int (L2_j331 σ ξ one two)), some (.int (L2_j343 σ ξ one two)), some (.int (L2_j522 σ ξ one two)), none, none, none, none, none, none, none, none, none, none, none] [.int v574_0, .int (one - one / ((σ 7 (ix (3 : Int32))) + (1 : Int32)) * ((σ 7 (ix (3 : Int32))) + (1 : Int32))), .ref r] 582 0 0 := by
              intro v574_0 ev574_0
              try rw [ev574_0]
              clear ev574_0
              obtain ⟨la, eh, hap, hLA, hα⟩ := hR11
              subst eh
              obtain ⟨vs, hroot⟩ := RA.root hX
              refine J_callV X ((c_R_exempt hX hIX hIO (one - one / ((σ 7 (ix (3 : Int32))) + (1 : Int32)) * ((σ 7 (ix (3 : Int32))) + (1 : Int32))) (L2_j574 σ ξ one two) (L2_j574_b ..)).frame hap) (And.intro gw_4_166 cw_X10_exempt) (un_l hroot) rfl rfl rfl (Nat.le_of_ble_eq_true rfl) dL_isLit_582 rfl (fun v h12 e => ?_) (fun E h12 e => ?_)
              rotate_left
              · obtain ⟨_, ⟨_, q⟩, _⟩ := e
                have t0 := exempt_ok hIX (p1 := (one - one / ((σ 7 (ix (3 : Int32))) + (1 : Int32)) * ((σ 7 (ix (3 : Int32))) + (1 : Int32)))) (L2_j574 σ ξ one two) (by have q := (L2_is (ξ := ξ) (two := two) hI h1 c507).1; have e : σ 7 (ix (3 : Int32)) = ξ 13 0 := hQ.g.2.2.2.1; rw [← e]; exact q)
                rw [t0] at q
                exact absurd q.2 (by decide)
              obtain ⟨hx12, ⟨e0, _, hX12⟩, hap12, eh⟩ := e
              subst e0
              subst eh
              have hR12 : LH (kca K) hx12 (un hx12 la) α (sS σ 3 (ix ((6 : Int32) * (one - one / ((σ 7 (ix (3 : Int32))) + (1 : Int32)) * ((σ 7 (ix (3 : Int32))) + (1 : Int32))))) (((σ 3 (ix ((6 : Int32) * (one - one / ((σ 7 (ix (3 : Int32))) + (1 : Int32)) * ((σ 7 (ix (3 : Int32))) + (1 : Int32)))))) - (σ 3 (ix ((6 : Int32) * (one - one / ((σ 7 (ix (3 : Int32))) + (1 : Int32)) * ((σ 7 (ix (3 : Int32))) + (1 : Int32)))))) / (128 : Int32) * (128 : Int32)) + (L2_j555 σ ξ one two))) := ⟨la, rfl, hap12, hLA, hα⟩
              show J K (un hx12 la) [some (.ref r), some (.ref (α 0)), some (.ref (α 1)), some (.ref (α 2)), some (.ref (α 3)), some (.ref (α 4)), some (.ref (α 7)), some (.int (2 : Int32)), some (.int one), some (.int two), some (.int (one - one / ((σ 7 (ix (3 : Int32))) + (1 : Int32)) * ((σ 7 (ix (3 : Int32))) + (1 : Int32)))), some (.int (L2_j331 σ ξ one two)), some (.int (L2_j343 σ ξ one two)), some (.int (L2_j522 σ ξ one two)), none, none, none, none, none, none, none, none, none, none, none] [.int (M_exempt ξ (one - one / ((σ 7 (ix (3 : Int32))) + (1 : Int32)) * ((σ 7 (ix (3 : Int32))) + (1 : Int32))) (L2_j574 σ ξ one two))] 585 1 6
              refine J_iload_13 X dL_isLit_585 ?_
              have K587_595 : ∀ (v587_0 : Int32), v587_0 = (L2_j587 σ ξ one two) → J K (un hx12 la) [some (.ref r), some (.ref (α 0)), some (.ref (α 1)), some (.ref (α 2)), some (.ref (α 3)), some (.ref (α 4)), some (.ref (α 7)), some (.int (2 : Int32)), some (.int one), some (.int two), some (.int (one - one / ((σ 7 (ix (3 : Int32))) + (1 : Int32)) * ((σ 7 (ix (3 : Int32))) + (1 : Int32)))), some (.int (L2_j331 σ ξ one two)), some (.int (L2_j343 σ ξ one two)), some (.int (L2_j522 σ ξ one two)), none, none, none, none, none, none, none, none, none, none, none] [.int v587_0] 595 1 6 := by
                intro v587_0 ev587_0
                try rw [ev587_0]
                clear ev587_0
                exact J_zret X rfl (L2_j587_b ..) rfl ⟨by rw [q_v], hx12, by rw [q_s]; exact hR12, by rw [q_x]; exact hX12⟩ dL_isLit_595
              have j587_0 : L2_j587 σ ξ one two = (if (M_exempt ξ (one - one / ((σ 7 (ix (3 : Int32))) + (1 : Int32)) * ((σ 7 (ix (3 : Int32))) + (1 : Int32))) (L2_j574 σ ξ one two)) = (L2_j522 σ ξ one two) then (1 : Int32) else (0 : Int32)) := rfl
              refine J_icmp_ne (tgt := 594) X dL_isLit_587 (by decide) (fun c587 => ?_) (fun c587 => ?_)
              · skip
                rw [if_neg c587] at j587_0
                refine J_iconst (v := 0) X dL_isLit_594 rfl ?_
                exact K587_595 _ j587_0.symm
              · skip
                rw [if_pos c587] at j587_0
                refine J_iconst (v := 1) X dL_isLit_590 rfl ?_
                refine J_goto (tgt := 595) X dL_isLit_591 (by decide) ?_
                exact K587_595 _ j587_0.symm
            have j574_0 : L2_j574 σ ξ one two = (if (two - two / (2 : Int32) * (2 : Int32)) = (0 : Int32) then (1 : Int32) else (0 : Int32)) := rfl
            refine J_if_ne (tgt := 581) X dL_isLit_574 (by decide) (fun c574 => ?_) (fun c574 => ?_)
            · skip
              rw [if_neg c574] at j574_0
              refine J_iconst (v := 0) X dL_isLit_581 rfl ?_
              exact K574_582 _ j574_0.symm
            · skip
              rw [if_pos c574] at j574_0
              refine J_iconst (v := 1) X dL_isLit_577 rfl ?_
              refine J_goto (tgt := 582) X dL_isLit_578 (by decide) ?_
              exact K574_582 _ j574_0.symm
          have j555_0 : L2_j555 σ ξ one two = (if (two - two / (2 : Int32) * (2 : Int32)) = (0 : Int32) then (128 : Int32) else (0 : Int32)) := rfl
          refine J_if_ne (tgt := 564) X dL_isLit_555 (by decide) (fun c555 => ?_) (fun c555 => ?_)
          · skip
            rw [if_neg c555] at j555_0
            refine J_iconst (v := 0) X dL_isLit_564 rfl ?_
            exact K555_565 _ j555_0.symm
          · skip
            rw [if_pos c555] at j555_0
            refine J_sipush (v := (128 : Int32)) X dL_isLit_558 (by decide) ?_
            refine J_goto (tgt := 565) X dL_isLit_561 (by decide) ?_
            exact K555_565 _ j555_0.symm
        have j522_0 : L2_j522 σ ξ one two = (if (σ 3 (ix ((6 : Int32) * (one - one / ((σ 7 (ix (3 : Int32))) + (1 : Int32)) * ((σ 7 (ix (3 : Int32))) + (1 : Int32)))))) ≤ (127 : Int32) then (0 : Int32) else (1 : Int32)) := rfl
        refine J_icmp_le (tgt := 529) X dL_isLit_522 (by decide) (fun c522 => ?_) (fun c522 => ?_)
        · skip
          rw [if_pos c522] at j522_0
          refine J_iconst (v := 0) X dL_isLit_529 rfl ?_
          exact K522_530 _ j522_0.symm
        · skip
          rw [if_neg c522] at j522_0
          refine J_iconst (v := 1) X dL_isLit_525 rfl ?_
          refine J_goto (tgt := 530) X dL_isLit_526 (by decide) ?_
          exact K522_530 _ j522_0.symm
      · skip
        rw [if_pos c507] at q_v
        rw [if_pos c507] at q_s
        rw [if_pos c507] at q_x
        refine J_iconst (v := 1) X dL_isLit_510 rfl ?_
        exact J_zret X rfl (by first | exact Or.inl rfl | exact Or.inr rfl) rfl ⟨by rw [q_v], hx, by rw [q_s]; exact hL, by rw [q_x]; exact hX⟩ dL_isLit_511
    have j343_0 : L2_j343 σ ξ one two = (if (L2_j331 σ ξ one two) = (0 : Int32) then (0 : Int32) else (if (σ 3 (ix (((6 : Int32) * (one - one / ((σ 7 (ix (3 : Int32))) + (1 : Int32)) * ((σ 7 (ix (3 : Int32))) + (1 : Int32)))) + (5 : Int32)))) ≤ (σ 7 (ix (0 : Int32))) then (0 : Int32) else (1 : Int32))) := rfl
    refine J_if_eq (tgt := 367) X dL_isLit_343 (by decide) (fun c343 => ?_) (fun c343 => ?_)
    · skip
      rw [if_pos c343] at j343_0
      refine J_iconst (v := 0) X dL_isLit_367 rfl ?_
      exact K343_368 _ j343_0.symm
    · skip
      rw [if_neg c343] at j343_0
      refine J_aload_4 X dL_isLit_346 ?_
      refine J_bipush (v := (6 : Int32)) X dL_isLit_348 (by decide) ?_
      refine J_iload_10 X dL_isLit_350 ?_
      refine J_imul X dL_isLit_352 ?_
      refine J_iconst (v := 5) X dL_isLit_353 rfl ?_
      refine J_iadd X dL_isLit_354 ?_
      refine JL_ld X hL.la 3 (by decide) (vp_up (vr_add (vr_mul (vp_in_nI (n := 6) (N := 7) (by decide) (by decide)) (L2_is (ξ := ξ) (two := two) hI h1 c343).2 (by decide)) (vp_in_nI (n := 5) (N := 6) (by decide) (by decide)) (by decide)) (by decide)) dL_isLit_355 ?_
      refine J_aload_6 X dL_isLit_356 ?_
      refine J_iconst (v := 0) X dL_isLit_358 rfl ?_
      refine JL_ld X hL.la 7 (by decide) (vp_up (vp_in_nI (n := 0) (N := 1) (by decide) (by decide)) (by decide)) dL_isLit_359 ?_
      refine J_icmp_le (tgt := 367) X dL_isLit_360 (by decide) (fun c360 => ?_) (fun c360 => ?_)
      · skip
        rw [if_pos c360] at j343_0
        refine J_iconst (v := 0) X dL_isLit_367 rfl ?_
        exact K343_368 _ j343_0.symm
      · skip
        rw [if_neg c360] at j343_0
        refine J_iconst (v := 1) X dL_isLit_363 rfl ?_
        refine J_goto (tgt := 368) X dL_isLit_364 (by decide) ?_
        exact K343_368 _ j343_0.symm
  have j331_0 : L2_j331 σ ξ one two = (if (σ 7 (ix (3 : Int32))) ≤ (one - one / ((σ 7 (ix (3 : Int32))) + (1 : Int32)) * ((σ 7 (ix (3 : Int32))) + (1 : Int32))) then (0 : Int32) else (1 : Int32)) := rfl
  refine J_icmp_ge (tgt := 338) X dL_isLit_331 (by decide) (fun c331 => ?_) (fun c331 => ?_)
  · skip
    rw [if_pos c331] at j331_0
    refine J_iconst (v := 0) X dL_isLit_338 rfl ?_
    exact K331_339 _ j331_0.symm
  · skip
    rw [if_neg c331] at j331_0
    refine J_iconst (v := 1) X dL_isLit_334 rfl ?_
    refine J_goto (tgt := 339) X dL_isLit_335 (by decide) ?_
    exact K331_339 _ j331_0.symm
def L3_j331 (σ : St) (ξ : St) (one : Int32) (two : Int32) : Int32 := (if (σ 7 (ix (3 : Int32))) ≤ (one - one / ((σ 7 (ix (3 : Int32))) + (1 : Int32)) * ((σ 7 (ix (3 : Int32))) + (1 : Int32))) then (0 : Int32) else (1 : Int32))
theorem L3_j331_b (σ : St) (ξ : St) (one : Int32) (two : Int32) : L3_j331 σ ξ one two = 0 ∨ L3_j331 σ ξ one two = 1 := by
  unfold L3_j331
  (repeat' split) <;> first | exact Or.inl (by with_reducible rfl) | exact Or.inr (by with_reducible rfl)
def L3_j343 (σ : St) (ξ : St) (one : Int32) (two : Int32) : Int32 := (if (L3_j331 σ ξ one two) = (0 : Int32) then (0 : Int32) else (if (σ 3 (ix (((6 : Int32) * (one - one / ((σ 7 (ix (3 : Int32))) + (1 : Int32)) * ((σ 7 (ix (3 : Int32))) + (1 : Int32)))) + (5 : Int32)))) ≤ (σ 7 (ix (0 : Int32))) then (0 : Int32) else (1 : Int32)))
theorem L3_j343_b (σ : St) (ξ : St) (one : Int32) (two : Int32) : L3_j343 σ ξ one two = 0 ∨ L3_j343 σ ξ one two = 1 := by
  unfold L3_j343
  (repeat' split) <;> first | exact Or.inl (by with_reducible rfl) | exact Or.inr (by with_reducible rfl)
def L3_j618 (σ : St) (ξ : St) (one : Int32) (two : Int32) : Int32 := (if (two - two / (9 : Int32) * (9 : Int32)) = (0 : Int32) then (501 : Int32) else (two - two / (40 : Int32) * (40 : Int32)))
def L3_j640 (σ : St) (ξ : St) (one : Int32) (two : Int32) : Int32 := (if (σ 7 (ix (2 : Int32))) ≤ (one - one / ((σ 7 (ix (2 : Int32))) + (1 : Int32)) * ((σ 7 (ix (2 : Int32))) + (1 : Int32))) then (0 : Int32) else (1 : Int32))
theorem L3_j640_b (σ : St) (ξ : St) (one : Int32) (two : Int32) : L3_j640 σ ξ one two = 0 ∨ L3_j640 σ ξ one two = 1 := by
  unfold L3_j640
  (repeat' split) <;> first | exact Or.inl (by with_reducible rfl) | exact Or.inr (by with_reducible rfl)
def L3_j652 (σ : St) (ξ : St) (one : Int32) (two : Int32) : Int32 := (if (L3_j640 σ ξ one two) = (0 : Int32) then (0 : Int32) else (if (σ 2 (ix (((4 : Int32) * (one - one / ((σ 7 (ix (2 : Int32))) + (1 : Int32)) * ((σ 7 (ix (2 : Int32))) + (1 : Int32)))) + (3 : Int32)))) ≤ (σ 7 (ix (0 : Int32))) then (0 : Int32) else ((σ 2 (ix (((4 : Int32) * (one - one / ((σ 7 (ix (2 : Int32))) + (1 : Int32)) * ((σ 7 (ix (2 : Int32))) + (1 : Int32)))) + (3 : Int32)))) - (σ 7 (ix (0 : Int32))))))
def L3_j691_s (σ : St) (ξ : St) (one : Int32) (two : Int32) : St := (if (L3_j640 σ ξ one two) = (0 : Int32) then σ else (if (501 : Int32) ≤ (L3_j618 σ ξ one two) then σ else (sS σ 2 (ix (((4 : Int32) * (one - one / ((σ 7 (ix (2 : Int32))) + (1 : Int32)) * ((σ 7 (ix (2 : Int32))) + (1 : Int32)))) + (3 : Int32))) ((σ 7 (ix (0 : Int32))) + (L3_j618 σ ξ one two)))))
def L3_j732 (σ : St) (ξ : St) (one : Int32) (two : Int32) : Int32 := (if (L3_j640 σ ξ one two) = (0 : Int32) then (-3000000 : Int32) else (if (501 : Int32) ≤ (L3_j618 σ ξ one two) then (-2000000 : Int32) else (L3_j652 σ ξ one two)))
def L3_j755 (σ : St) (ξ : St) (one : Int32) (two : Int32) : Int32 := (if (DV_8 ξ (one - one / ((σ 7 (ix (2 : Int32))) + (1 : Int32)) * ((σ 7 (ix (2 : Int32))) + (1 : Int32))) (L3_j618 σ ξ one two)) = (L3_j732 σ ξ one two) then (1 : Int32) else (0 : Int32))
theorem L3_j755_b (σ : St) (ξ : St) (one : Int32) (two : Int32) : L3_j755 σ ξ one two = 0 ∨ L3_j755 σ ξ one two = 1 := by
  unfold L3_j755
  (repeat' split) <;> first | exact Or.inl (by with_reducible rfl) | exact Or.inr (by with_reducible rfl)
def L3 (σ : St) (ξ : St) (one : Int32) (two : Int32) : Int32 := (L3_j755 σ ξ one two)
def L3_s (σ : St) (ξ : St) (one : Int32) (two : Int32) : St := (L3_j691_s σ ξ one two)
def L3_x (σ : St) (ξ : St) (one : Int32) (two : Int32) : St := (M_outage_s ξ (one - one / ((σ 7 (ix (2 : Int32))) + (1 : Int32)) * ((σ 7 (ix (2 : Int32))) + (1 : Int32))) (L3_j618 σ ξ one two))
theorem L3_b (σ : St) (ξ : St) (one : Int32) (two : Int32) : (L3 σ ξ one two) = 0 ∨ (L3 σ ξ one two) = 1 := by
  unfold L3
  (repeat' split) <;> first | exact Or.inl (by with_reducible rfl) | exact Or.inr (by with_reducible rfl) | exact L3_j755_b ..
theorem L3_is {σ ξ : St} {one two : Int32} (hI : IL σ) (h1 : vp_in one 60000) (c : ¬ L3_j331 σ ξ one two = 0) : vp_in (one - one / ((σ 7 (ix (3 : Int32))) + (1 : Int32)) * ((σ 7 (ix (3 : Int32))) + (1 : Int32))) (ix (σ 7 (ix (3 : Int32)))) ∧ vp_in (one - one / ((σ 7 (ix (3 : Int32))) + (1 : Int32)) * ((σ 7 (ix (3 : Int32))) + (1 : Int32))) 10 := by
  unfold L3_j331 at c
  split at c
  · exact absurd rfl c
  · have h := below (remv h1 (by decide) (IL_7_3 hI) (by decide)) (by decide) (IL_7_3 hI) (by decide) (by assumption)
    exact ⟨h, vp_up h (cnt (N := 10) (IL_7_3 hI) (by decide)).2⟩
theorem L3_th {σ ξ : St} {one two : Int32} (hI : IL σ) (h1 : vp_in one 60000) (c : ¬ L3_j640 σ ξ one two = 0) : vp_in (one - one / ((σ 7 (ix (2 : Int32))) + (1 : Int32)) * ((σ 7 (ix (2 : Int32))) + (1 : Int32))) (ix (σ 7 (ix (2 : Int32)))) ∧ vp_in (one - one / ((σ 7 (ix (2 : Int32))) + (1 : Int32)) * ((σ 7 (ix (2 : Int32))) + (1 : Int32))) 2 := by
  unfold L3_j640 at c
  split at c
  · exact absurd rfl c
  · have h := below (remv h1 (by decide) (IL_7_2 hI) (by decide)) (by decide) (IL_7_2 hI) (by decide) (by assumption)
    exact ⟨h, vp_up h (cnt (N := 2) (IL_7_2 hI) (by decide)).2⟩
set_option maxRecDepth 100000 in
set_option maxHeartbeats 4000000 in
theorem c_L3 {l : Launch} {D : va_G} {ca : Nat → Nat} {h hx : fH} {r : Nat} {α : Nat → Nat} {σ ξ : St} (hL : LH ca hx h α σ) (hX : RA ca hx r ξ) (hIX : InvX ξ) (hIO : InvO ξ) (hQ : LQ ξ σ) (one : Int32) (two : Int32) (h1 : vp_in one 60000) (h2 : vp_in two 60000) : FM l D ca yL_isLit (.code yL_isLit cL_isLit 25 (some .boolean)) { frames := 10, cells := 2, slots := 12, locals := 197 } [.ref r, .ref (α 0), .ref (α 1), .ref (α 2), .ref (α 3), .ref (α 4), .ref (α 7), .int (3 : Int32), .int one, .int two] h (fun v h2 => v = some (.int (L3 σ ξ one two)) ∧ ∃ hx2, LH ca hx2 h2 α (L3_s σ ξ one two) ∧ RA ca hx2 r (L3_x σ ξ one two)) noX := by
  refine FM.of [some (.ref r), some (.ref (α 0)), some (.ref (α 1)), some (.ref (α 2)), some (.ref (α 3)), some (.ref (α 4)), some (.ref (α 7)), some (.int (3 : Int32)), some (.int one), some (.int two), none, none, none, none, none, none, none, none, none, none, none, none, none, none, none] (by decide) (Nat.le_of_ble_eq_true rfl) rfl ?_
  rintro K X rfl rfl rfl
  have hI := IL_of hQ hIX
  have q_v : (L3 σ ξ one two) = (L3_j755 σ ξ one two) := rfl
  have q_s : (L3_s σ ξ one two) = (L3_j691_s σ ξ one two) := rfl
  have q_x : (L3_x σ ξ one two) = (M_outage_s ξ (one - one / ((σ 7 (ix (2 : Int32))) + (1 : Int32)) * ((σ 7 (ix (2 : Int32))) + (1 : Int32))) (L3_j618 σ ξ one two)) := rfl
  refine J_iload_7 X dL_isLit_0 ?_
  refine J_if_ne (tgt := 314) X dL_isLit_2 (by decide) (fun _ => ?_) (fun c => absurd c (by decide))
  refine J_iload_8 X dL_isLit_314 ?_
  refine J_aload_6 X dL_isLit_316 ?_
  refine J_iconst (v := 3) X dL_isLit_318 rfl ?_
  refine JL_ld X hL.la 7 (by decide) (vp_up (vp_in_nI (n := 3) (N := 4) (by decide) (by decide)) (by decide)) dL_isLit_319 ?_
  refine J_iconst (v := 1) X dL_isLit_320 rfl ?_
  refine J_iadd X dL_isLit_321 ?_
  refine J_irem X dL_isLit_322 (gp1 (IL_7_3 hI) (by decide)) ?_
  refine J_istore_10 X dL_isLit_323 rfl (by decide) ?_
  refine J_iload_10 X dL_isLit_325 ?_
  refine J_aload_6 X dL_isLit_327 ?_
  refine J_iconst (v := 3) X dL_isLit_329 rfl ?_
  refine JL_ld X hL.la 7 (by decide) (vp_up (vp_in_nI (n := 3) (N := 4) (by decide) (by decide)) (by decide)) dL_isLit_330 ?_
  have K331_339 : ∀ (v331_0 : Int32), v331_0 = (L3_j331 σ ξ one two) → J K h [some (.ref r), some (.ref (α 0)), some (.ref (α 1)), some (.ref (α 2)), some (.ref (α 3)), some (.ref (α 4)), some (.ref (α 7)), some (.int (3 : Int32)), some (.int one), some (.int two), some (.int (one - one / ((σ 7 (ix (3 : Int32))) + (1 : Int32)) * ((σ 7 (ix (3 : Int32))) + (1 : Int32)))), none, none, none, none, none, none, none, none, none, none, none, none, none, none] [.int v331_0] 339 0 0 := by
    intro v331_0 ev331_0
    try rw [ev331_0]
    clear ev331_0
    refine J_istore_11 X dL_isLit_339 rfl (by decide) ?_
    refine J_iload_11 X dL_isLit_341 ?_
    have K343_368 : ∀ (v343_0 : Int32), v343_0 = (L3_j343 σ ξ one two) → J K h [some (.ref r), some (.ref (α 0)), some (.ref (α 1)), some (.ref (α 2)), some (.ref (α 3)), some (.ref (α 4)), some (.ref (α 7)), some (.int (3 : Int32)), some (.int one), some (.int two), some (.int (one - one / ((σ 7 (ix (3 : Int32))) + (1 : Int32)) * ((σ 7 (ix (3 : Int32))) + (1 : Int32)))), some (.int (L3_j331 σ ξ one two)), none, none, none, none, none, none, none, none, none, none, none, none, none] [.int v343_0] 368 0 0 := by
      intro v343_0 ev343_0
      try rw [ev343_0]
      clear ev343_0
      refine J_istore_12 X dL_isLit_368 rfl (by decide) ?_
      refine J_iload_7 X dL_isLit_370 ?_
      refine J_iconst (v := 1) X dL_isLit_372 rfl ?_
      refine J_icmp_ne (tgt := 499) X dL_isLit_373 (by decide) (fun _ => ?_) (fun c => absurd c (by decide))
      refine J_iload_7 X dL_isLit_499 ?_
      refine J_iconst (v := 2) X dL_isLit_501 rfl ?_
      refine J_icmp_ne (tgt := 596) X dL_isLit_502 (by decide) (fun _ => ?_) (fun c => absurd c (by decide))
      refine J_iload_7 X dL_isLit_596 ?_
      refine J_iconst (v := 3) X dL_isLit_598 rfl ?_
      refine J_icmp_ne (tgt := 764) X dL_isLit_599 (by decide) (fun c => absurd (by decide) c) (fun _ => ?_)
      refine J_iload_8 X dL_isLit_602 ?_
      refine J_aload_6 X dL_isLit_604 ?_
      refine J_iconst (v := 2) X dL_isLit_606 rfl ?_
      refine JL_ld X hL.la 7 (by decide) (vp_up (vp_in_nI (n := 2) (N := 3) (by decide) (by decide)) (by decide)) dL_isLit_607 ?_
      refine J_iconst (v := 1) X dL_isLit_608 rfl ?_
      refine J_iadd X dL_isLit_609 ?_
      refine J_irem X dL_isLit_610 (gp1 (IL_7_2 hI) (by decide)) ?_
      refine J_istore_13 X dL_isLit_611 rfl (by decide) ?_
      refine J_iload_9 X dL_isLit_613 ?_
      refine J_bipush (v := (9 : Int32)) X dL_isLit_615 (by decide) ?_
      refine J_irem X dL_isLit_617 (by decide) ?_
      have K618_632 : ∀ (v618_0 : Int32), v618_0 = (L3_j618 σ ξ one two) → J K h [some (.ref r), some (.ref (α 0)), some (.ref (α 1)), some (.ref (α 2)), some (.ref (α 3)), some (.ref (α 4)), some (.ref (α 7)), some (.int (3 : Int32)), some (.int one), some (.int two), some (.int (one - one / ((σ 7 (ix (3 : Int32))) + (1 : Int32)) * ((σ 7 (ix (3 : Int32))) + (1 : Int32)))), some (.int (L3_j331 σ ξ one two)), some (.int (L3_j343 σ ξ one two)), some (.int (one - one / ((σ 7 (ix (2 : Int32))) + (1 : Int32)) * ((σ 7 (ix (2 : Int32))) + (1 : Int32)))), none, none, none, none, none, none, none, none, none, none, none] [.int v618_0] 632 0 0 := by
        intro v618_0 ev618_0
        try rw [ev618_0]
        clear ev618_0
        refine J_istore_14 X dL_isLit_632 rfl (by decide) ?_
        refine J_iload_13 X dL_isLit_634 ?_
        refine J_aload_6 X dL_isLit_636 ?_
        refine J_iconst (v := 2) X dL_isLit_638 rfl ?_
        refine JL_ld X hL.la 7 (by decide) (vp_up (vp_in_nI (n := 2) (N := 3) (by decide) (by decide)) (by decide)) dL_isLit_639 ?_
        have K640_648 : ∀ (v640_0 : Int32), v640_0 = (L3_j640 σ ξ one two) → J K h [some (.ref r), some (.ref (α 0)), some (.ref (α 1)), some (.ref (α 2)), some (.ref (α 3)), some (.ref (α 4)), some (.ref (α 7)), some (.int (3 : Int32)), some (.int one), some (.int two), some (.int (one - one / ((σ 7 (ix (3 : Int32))) + (1 : Int32)) * ((σ 7 (ix (3 : Int32))) + (1 : Int32)))), some (.int (L3_j331 σ ξ one two)), some (.int (L3_j343 σ ξ one two)), some (.int (one - one / ((σ 7 (ix (2 : Int32))) + (1 : Int32)) * ((σ 7 (ix (2 : Int32))) + (1 : Int32)))), some (.int (L3_j618 σ ξ one two)), none, none, none, none, none, none, none, none, none, none] [.int v640_0] 648 0 0 := by
          intro v640_0 ev640_0
          try rw [ev640_0]
          clear ev640_0
          refine J_istore_15 X dL_isLit_648 rfl (by decide) ?_
          refine J_iload_15 X dL_isLit_650 ?_
          have K652_687 : ∀ (v652_0 : Int32), v652_0 = (L3_j652 σ ξ one two) → J K h [some (.ref r), some (.ref (α 0)), some (.ref (α 1)), some (.ref (α 2)), some (.ref (α 3)), some (.ref (α 4)), some (.ref (α 7)), some (.int (3 : Int32)), some (.int one), some (.int two), some (.int (one - one / ((σ 7 (ix (3 : Int32))) + (1 : Int32)) * ((σ 7 (ix (3 : Int32))) + (1 : Int32)))), some (.int (L3_j331 σ ξ one two)), some (.int (L3_j343 σ ξ one two)), some (.int (one - one / ((σ 7 (ix (2 : Int32))) + (1 : Int32)) * ((σ 7 (ix (2 : Int32))) + (1 : Int32)))), some (.int (L3_j618 σ ξ one two)), some (.int (L3_j640 σ ξ one two)), none, none, none, none, none, none, none, none, none] [.int v652_0] 687 0 0 := by
            intro v652_0 ev652_0
            try rw [ev652_0]
            clear ev652_0
            refine J_istore_16 X dL_isLit_687 rfl (by decide) ?_
            refine J_iload_15 X dL_isLit_689 ?_
            have K691_717 : ∀ hj11 : fH, LH (kca K) hx hj11 α (L3_j691_s σ ξ one two) → J K hj11 [some (.ref r), some (.ref (α 0)), some (.ref (α 1)), some (.ref (α 2)), some (.ref (α 3)), some (.ref (α 4)), some (.ref (α 7)), some (.int (3 : Int32)), some (.int one), some (.int two), some (.int (one - one / ((σ 7 (ix (3 : Int32))) + (1 : Int32)) * ((σ 7 (ix (3 : Int32))) + (1 : Int32)))), some (.int (L3_j331 σ ξ one two)), some (.int (L3_j343 σ ξ one two)), some (.int (one - one / ((σ 7 (ix (2 : Int32))) + (1 : Int32)) * ((σ 7 (ix (2 : Int32))) + (1 : Int32)))), some (.int (L3_j618 σ ξ one two)), some (.int (L3_j640 σ ξ one two)), some (.int (L3_j652 σ ξ one two)), none, none, none, none, none, none, none, none] [] 717 0 0 := by
              intro hj11 hRj11
              refine J_aload_0 X dL_isLit_717 ?_
              refine J_bipush (v := (8 : Int32)) X dL_isLit_718 (by decide) ?_
              refine J_iload_13 X dL_isLit_720 ?_
              refine J_iload_14 X dL_isLit_722 ?_
              refine J_iconst (v := 0) X dL_isLit_724 rfl ?_
              refine J_iconst (v := 0) X dL_isLit_725 rfl ?_
              refine J_iconst (v := 0) X dL_isLit_726 rfl ?_
              obtain ⟨la, eh, hap, hLA, hα⟩ := hRj11
              subst eh
              refine J_callSW X ((c_D_8 hX hIX hIO (one - one / ((σ 7 (ix (2 : Int32))) + (1 : Int32)) * ((σ 7 (ix (2 : Int32))) + (1 : Int32))) (L3_j618 σ ξ one two) (0 : Int32) (0 : Int32) (0 : Int32)).frame hap) (And.intro gw_2_177 cw_L_does) rfl rfl (Nat.le_of_ble_eq_true rfl) dL_isLit_727 rfl (fun v h12 e => ?_) (fun E h12 e => by obtain ⟨_, q, _⟩ := e; exact q.elim)
              obtain ⟨hx12, ⟨e0, hX12⟩, hap12, eh⟩ := e
              subst e0
              subst eh
              have hR12 : LH (kca K) hx12 (un hx12 la) α (L3_j691_s σ ξ one two) := ⟨la, rfl, hap12, hLA, hα⟩
              show J K (un hx12 la) [some (.ref r), some (.ref (α 0)), some (.ref (α 1)), some (.ref (α 2)), some (.ref (α 3)), some (.ref (α 4)), some (.ref (α 7)), some (.int (3 : Int32)), some (.int one), some (.int two), some (.int (one - one / ((σ 7 (ix (3 : Int32))) + (1 : Int32)) * ((σ 7 (ix (3 : Int32))) + (1 : Int32)))), some (.int (L3_j331 σ ξ one two)), some (.int (L3_j343 σ ξ one two)), some (.int (one - one / ((σ 7 (ix (2 : Int32))) + (1 : Int32)) * ((σ 7 (ix (2 : Int32))) + (1 : Int32)))), some (.int (L3_j618 σ ξ one two)), some (.int (L3_j640 σ ξ one two)), some (.int (L3_j652 σ ξ one two)), none, none, none, none, none, none, none, none] [.int (DV_8 ξ (one - one / ((σ 7 (ix (2 : Int32))) + (1 : Int32)) * ((σ 7 (ix (2 : Int32))) + (1 : Int32))) (L3_j618 σ ξ one two))] 730 2 12
              refine J_iload_15 X dL_isLit_730 ?_
              have K732_755 : ∀ (v732_0 : Int32), v732_0 = (L3_j732 σ ξ one two) → J K (un hx12 la) [some (.ref r), some (.ref (α 0)), some (.ref (α 1)), some (.ref (α 2)), some (.ref (α 3)), some (.ref (α 4)), some (.ref (α 7)), some (.int (3 : Int32)), some (.int one), some (.int two), some (.int (one - one / ((σ 7 (ix (3 : Int32))) + (1 : Int32)) * ((σ 7 (ix (3 : Int32))) + (1 : Int32)))), some (.int (L3_j331 σ ξ one two)), some (.int (L3_j343 σ ξ one two)), some (.int (one - one / ((σ 7 (ix (2 : Int32))) + (1 : Int32)) * ((σ 7 (ix (2 : Int32))) + (1 : Int32)))), some (.int (L3_j618 σ ξ one two)), some (.int (L3_j640 σ ξ one two)), some (.int (L3_j652 σ ξ one two)), none, none, none, none, none, none, none, none] [.int v732_0, .int (DV_8 ξ (one - one / ((σ 7 (ix (2 : Int32))) + (1 : Int32)) * ((σ 7 (ix (2 : Int32))) + (1 : Int32))) (L3_j618 σ ξ one two))] 755 2 12 := by
                intro v732_0 ev732_0
                try rw [ev732_0]
                clear ev732_0
                have K755_763 : ∀ (v755_0 : Int32), v755_0 = (L3_j755 σ ξ one two) → J K (un hx12 la) [some (.ref r), some (.ref (α 0)), some (.ref (α 1)), some (.ref (α 2)), some (.ref (α 3)), some (.ref (α 4)), some (.ref (α 7)), some (.int (3 : Int32)), some (.int one), some (.int two), some (.int (one - one / ((σ 7 (ix (3 : Int32))) + (1 : Int32)) * ((σ 7 (ix (3 : Int32))) + (1 : Int32)))), some (.int (L3_j331 σ ξ one two)), some (.int (L3_j343 σ ξ one two)), some (.int (one - one / ((σ 7 (ix (2 : Int32))) + (1 : Int32)) * ((σ 7 (ix (2 : Int32))) + (1 : Int32)))), some (.int (L3_j618 σ ξ one two)), some (.int (L3_j640 σ ξ one two)), some (.int (L3_j652 σ ξ one two)), none, none, none, none, none, none, none, none] [.int v755_0] 763 2 12 := by
                  intro v755_0 ev755_0
                  try rw [ev755_0]
                  clear ev755_0
                  exact J_zret X rfl (L3_j755_b ..) rfl ⟨by rw [q_v], hx12, by rw [q_s]; exact hR12, by rw [q_x]; exact hX12⟩ dL_isLit_763
                have j755_0 : L3_j755 σ ξ one two = (if (DV_8 ξ (one - one / ((σ 7 (ix (2 : Int32))) + (1 : Int32)) * ((σ 7 (ix (2 : Int32))) + (1 : Int32))) (L3_j618 σ ξ one two)) = (L3_j732 σ ξ one two) then (1 : Int32) else (0 : Int32)) := rfl
                refine J_icmp_ne (tgt := 762) X dL_isLit_755 (by decide) (fun c755 => ?_) (fun c755 => ?_)
                · skip
                  rw [if_neg c755] at j755_0
                  refine J_iconst (v := 0) X dL_isLit_762 rfl ?_
                  exact K755_763 _ j755_0.symm
                · skip
                  rw [if_pos c755] at j755_0
                  refine J_iconst (v := 1) X dL_isLit_758 rfl ?_
                  refine J_goto (tgt := 763) X dL_isLit_759 (by decide) ?_
                  exact K755_763 _ j755_0.symm
              have j732_0 : L3_j732 σ ξ one two = (if (L3_j640 σ ξ one two) = (0 : Int32) then (-3000000 : Int32) else (if (501 : Int32) ≤ (L3_j618 σ ξ one two) then (-2000000 : Int32) else (L3_j652 σ ξ one two))) := rfl
              refine J_if_ne (tgt := 740) X dL_isLit_732 (by decide) (fun c732 => ?_) (fun c732 => ?_)
              · skip
                rw [if_neg c732] at j732_0
                refine J_iload_14 X dL_isLit_740 ?_
                refine J_sipush (v := (501 : Int32)) X dL_isLit_742 (by decide) ?_
                refine J_icmp_ge (tgt := 753) X dL_isLit_745 (by decide) (fun c745 => ?_) (fun c745 => ?_)
                · skip
                  rw [if_pos c745] at j732_0
                  refine J_ldc (v := (-2000000 : Int32)) X dL_isLit_753 gw_4_73 ?_
                  exact K732_755 _ j732_0.symm
                · skip
                  rw [if_neg c745] at j732_0
                  refine J_iload_16 X dL_isLit_748 ?_
                  refine J_goto (tgt := 755) X dL_isLit_750 (by decide) ?_
                  exact K732_755 _ j732_0.symm
              · skip
                rw [if_pos c732] at j732_0
                refine J_ldc (v := (-3000000 : Int32)) X dL_isLit_735 gw_4_72 ?_
                refine J_goto (tgt := 755) X dL_isLit_737 (by decide) ?_
                exact K732_755 _ j732_0.symm
            have j691_0 : L3_j691_s σ ξ one two = (if (L3_j640 σ ξ one two) = (0 : Int32) then σ else (if (501 : Int32) ≤ (L3_j618 σ ξ one two) then σ else (sS σ 2 (ix (((4 : Int32) * (one - one / ((σ 7 (ix (2 : Int32))) + (1 : Int32)) * ((σ 7 (ix (2 : Int32))) + (1 : Int32)))) + (3 : Int32))) ((σ 7 (ix (0 : Int32))) + (L3_j618 σ ξ one two))))) := rfl
            refine J_if_eq (tgt := 717) X dL_isLit_691 (by decide) (fun c691 => ?_) (fun c691 => ?_)
            · skip
              rw [if_pos c691] at j691_0
              exact K691_717 _ (by rw [j691_0]; exact hL)
            · skip
              rw [if_neg c691] at j691_0
              refine J_iload_14 X dL_isLit_694 ?_
              refine J_sipush (v := (501 : Int32)) X dL_isLit_696 (by decide) ?_
              refine J_icmp_ge (tgt := 717) X dL_isLit_699 (by decide) (fun c699 => ?_) (fun c699 => ?_)
              · skip
                rw [if_pos c699] at j691_0
                exact K691_717 _ (by rw [j691_0]; exact hL)
              · skip
                rw [if_neg c699] at j691_0
                refine J_aload_3 X dL_isLit_702 ?_
                refine J_iconst (v := 4) X dL_isLit_703 rfl ?_
                refine J_iload_13 X dL_isLit_704 ?_
                refine J_imul X dL_isLit_706 ?_
                refine J_iconst (v := 3) X dL_isLit_707 rfl ?_
                refine J_iadd X dL_isLit_708 ?_
                refine J_aload_6 X dL_isLit_709 ?_
                refine J_iconst (v := 0) X dL_isLit_711 rfl ?_
                refine JL_ld X hL.la 7 (by decide) (vp_up (vp_in_nI (n := 0) (N := 1) (by decide) (by decide)) (by decide)) dL_isLit_712 ?_
                refine J_iload_14 X dL_isLit_713 ?_
                refine J_iadd X dL_isLit_715 ?_
                refine JL_st X hL 2 (by decide) (vp_up (vr_add (vr_mul (vp_in_nI (n := 4) (N := 5) (by decide) (by decide)) (L3_th (ξ := ξ) (two := two) hI h1 c691).2 (by decide)) (vp_in_nI (n := 3) (N := 4) (by decide) (by decide)) (by decide)) (by decide)) dL_isLit_716 (fun h13 hR13 => ?_)
                exact K691_717 _ (by rw [j691_0]; exact hR13)
          have j652_0 : L3_j652 σ ξ one two = (if (L3_j640 σ ξ one two) = (0 : Int32) then (0 : Int32) else (if (σ 2 (ix (((4 : Int32) * (one - one / ((σ 7 (ix (2 : Int32))) + (1 : Int32)) * ((σ 7 (ix (2 : Int32))) + (1 : Int32)))) + (3 : Int32)))) ≤ (σ 7 (ix (0 : Int32))) then (0 : Int32) else ((σ 2 (ix (((4 : Int32) * (one - one / ((σ 7 (ix (2 : Int32))) + (1 : Int32)) * ((σ 7 (ix (2 : Int32))) + (1 : Int32)))) + (3 : Int32)))) - (σ 7 (ix (0 : Int32)))))) := rfl
          refine J_if_eq (tgt := 686) X dL_isLit_652 (by decide) (fun c652 => ?_) (fun c652 => ?_)
          · skip
            rw [if_pos c652] at j652_0
            refine J_iconst (v := 0) X dL_isLit_686 rfl ?_
            exact K652_687 _ j652_0.symm
          · skip
            rw [if_neg c652] at j652_0
            refine J_aload_3 X dL_isLit_655 ?_
            refine J_iconst (v := 4) X dL_isLit_656 rfl ?_
            refine J_iload_13 X dL_isLit_657 ?_
            refine J_imul X dL_isLit_659 ?_
            refine J_iconst (v := 3) X dL_isLit_660 rfl ?_
            refine J_iadd X dL_isLit_661 ?_
            refine JL_ld X hL.la 2 (by decide) (vp_up (vr_add (vr_mul (vp_in_nI (n := 4) (N := 5) (by decide) (by decide)) (L3_th (ξ := ξ) (two := two) hI h1 c652).2 (by decide)) (vp_in_nI (n := 3) (N := 4) (by decide) (by decide)) (by decide)) (by decide)) dL_isLit_662 ?_
            refine J_aload_6 X dL_isLit_663 ?_
            refine J_iconst (v := 0) X dL_isLit_665 rfl ?_
            refine JL_ld X hL.la 7 (by decide) (vp_up (vp_in_nI (n := 0) (N := 1) (by decide) (by decide)) (by decide)) dL_isLit_666 ?_
            refine J_icmp_le (tgt := 686) X dL_isLit_667 (by decide) (fun c667 => ?_) (fun c667 => ?_)
            · skip
              rw [if_pos c667] at j652_0
              refine J_iconst (v := 0) X dL_isLit_686 rfl ?_
              exact K652_687 _ j652_0.symm
            · skip
              rw [if_neg c667] at j652_0
              refine J_aload_3 X dL_isLit_670 ?_
              refine J_iconst (v := 4) X dL_isLit_671 rfl ?_
              refine J_iload_13 X dL_isLit_672 ?_
              refine J_imul X dL_isLit_674 ?_
              refine J_iconst (v := 3) X dL_isLit_675 rfl ?_
              refine J_iadd X dL_isLit_676 ?_
              refine JL_ld X hL.la 2 (by decide) (vp_up (vr_add (vr_mul (vp_in_nI (n := 4) (N := 5) (by decide) (by decide)) (L3_th (ξ := ξ) (two := two) hI h1 c652).2 (by decide)) (vp_in_nI (n := 3) (N := 4) (by decide) (by decide)) (by decide)) (by decide)) dL_isLit_677 ?_
              refine J_aload_6 X dL_isLit_678 ?_
              refine J_iconst (v := 0) X dL_isLit_680 rfl ?_
              refine JL_ld X hL.la 7 (by decide) (vp_up (vp_in_nI (n := 0) (N := 1) (by decide) (by decide)) (by decide)) dL_isLit_681 ?_
              refine J_isub X dL_isLit_682 ?_
              refine J_goto (tgt := 687) X dL_isLit_683 (by decide) ?_
              exact K652_687 _ j652_0.symm
        have j640_0 : L3_j640 σ ξ one two = (if (σ 7 (ix (2 : Int32))) ≤ (one - one / ((σ 7 (ix (2 : Int32))) + (1 : Int32)) * ((σ 7 (ix (2 : Int32))) + (1 : Int32))) then (0 : Int32) else (1 : Int32)) := rfl
        refine J_icmp_ge (tgt := 647) X dL_isLit_640 (by decide) (fun c640 => ?_) (fun c640 => ?_)
        · skip
          rw [if_pos c640] at j640_0
          refine J_iconst (v := 0) X dL_isLit_647 rfl ?_
          exact K640_648 _ j640_0.symm
        · skip
          rw [if_neg c640] at j640_0
          refine J_iconst (v := 1) X dL_isLit_643 rfl ?_
          refine J_goto (tgt := 648) X dL_isLit_644 (by decide) ?_
          exact K640_648 _ j640_0.symm
      have j618_0 : L3_j618 σ ξ one two = (if (two - two / (9 : Int32) * (9 : Int32)) = (0 : Int32) then (501 : Int32) else (two - two / (40 : Int32) * (40 : Int32))) := rfl
      refine J_if_ne (tgt := 627) X dL_isLit_618 (by decide) (fun c618 => ?_) (fun c618 => ?_)
      · skip
        rw [if_neg c618] at j618_0
        refine J_iload_9 X dL_isLit_627 ?_
        refine J_bipush (v := (40 : Int32)) X dL_isLit_629 (by decide) ?_
        refine J_irem X dL_isLit_631 (by decide) ?_
        exact K618_632 _ j618_0.symm
      · skip
        rw [if_pos c618] at j618_0
        refine J_sipush (v := (501 : Int32)) X dL_isLit_621 (by decide) ?_
        refine J_goto (tgt := 632) X dL_isLit_624 (by decide) ?_
        exact K618_632 _ j618_0.symm
    have j343_0 : L3_j343 σ ξ one two = (if (L3_j331 σ ξ one two) = (0 : Int32) then (0 : Int32) else (if (σ 3 (ix (((6 : Int32) * (one - one / ((σ 7 (ix (3 : Int32))) + (1 : Int32)) * ((σ 7 (ix (3 : Int32))) + (1 : Int32)))) + (5 : Int32)))) ≤ (σ 7 (ix (0 : Int32))) then (0 : Int32) else (1 : Int32))) := rfl
    refine J_if_eq (tgt := 367) X dL_isLit_343 (by decide) (fun c343 => ?_) (fun c343 => ?_)
    · skip
      rw [if_pos c343] at j343_0
      refine J_iconst (v := 0) X dL_isLit_367 rfl ?_
      exact K343_368 _ j343_0.symm
    · skip
      rw [if_neg c343] at j343_0
      refine J_aload_4 X dL_isLit_346 ?_
      refine J_bipush (v := (6 : Int32)) X dL_isLit_348 (by decide) ?_
      refine J_iload_10 X dL_isLit_350 ?_
      refine J_imul X dL_isLit_352 ?_
      refine J_iconst (v := 5) X dL_isLit_353 rfl ?_
      refine J_iadd X dL_isLit_354 ?_
      refine JL_ld X hL.la 3 (by decide) (vp_up (vr_add (vr_mul (vp_in_nI (n := 6) (N := 7) (by decide) (by decide)) (L3_is (ξ := ξ) (two := two) hI h1 c343).2 (by decide)) (vp_in_nI (n := 5) (N := 6) (by decide) (by decide)) (by decide)) (by decide)) dL_isLit_355 ?_
      refine J_aload_6 X dL_isLit_356 ?_
      refine J_iconst (v := 0) X dL_isLit_358 rfl ?_
      refine JL_ld X hL.la 7 (by decide) (vp_up (vp_in_nI (n := 0) (N := 1) (by decide) (by decide)) (by decide)) dL_isLit_359 ?_
      refine J_icmp_le (tgt := 367) X dL_isLit_360 (by decide) (fun c360 => ?_) (fun c360 => ?_)
      · skip
        rw [if_pos c360] at j343_0
        refine J_iconst (v := 0) X dL_isLit_367 rfl ?_
        exact K343_368 _ j343_0.symm
      · skip
        rw [if_neg c360] at j343_0
        refine J_iconst (v := 1) X dL_isLit_363 rfl ?_
        refine J_goto (tgt := 368) X dL_isLit_364 (by decide) ?_
        exact K343_368 _ j343_0.symm
  have j331_0 : L3_j331 σ ξ one two = (if (σ 7 (ix (3 : Int32))) ≤ (one - one / ((σ 7 (ix (3 : Int32))) + (1 : Int32)) * ((σ 7 (ix (3 : Int32))) + (1 : Int32))) then (0 : Int32) else (1 : Int32)) := rfl
  refine J_icmp_ge (tgt := 338) X dL_isLit_331 (by decide) (fun c331 => ?_) (fun c331 => ?_)
  · skip
    rw [if_pos c331] at j331_0
    refine J_iconst (v := 0) X dL_isLit_338 rfl ?_
    exact K331_339 _ j331_0.symm
  · skip
    rw [if_neg c331] at j331_0
    refine J_iconst (v := 1) X dL_isLit_334 rfl ?_
    refine J_goto (tgt := 339) X dL_isLit_335 (by decide) ?_
    exact K331_339 _ j331_0.symm
def L4_j331 (σ : St) (ξ : St) (one : Int32) (two : Int32) : Int32 := (if (σ 7 (ix (3 : Int32))) ≤ (one - one / ((σ 7 (ix (3 : Int32))) + (1 : Int32)) * ((σ 7 (ix (3 : Int32))) + (1 : Int32))) then (0 : Int32) else (1 : Int32))
theorem L4_j331_b (σ : St) (ξ : St) (one : Int32) (two : Int32) : L4_j331 σ ξ one two = 0 ∨ L4_j331 σ ξ one two = 1 := by
  unfold L4_j331
  (repeat' split) <;> first | exact Or.inl (by with_reducible rfl) | exact Or.inr (by with_reducible rfl)
def L4_j343 (σ : St) (ξ : St) (one : Int32) (two : Int32) : Int32 := (if (L4_j331 σ ξ one two) = (0 : Int32) then (0 : Int32) else (if (σ 3 (ix (((6 : Int32) * (one - one / ((σ 7 (ix (3 : Int32))) + (1 : Int32)) * ((σ 7 (ix (3 : Int32))) + (1 : Int32)))) + (5 : Int32)))) ≤ (σ 7 (ix (0 : Int32))) then (0 : Int32) else (1 : Int32)))
theorem L4_j343_b (σ : St) (ξ : St) (one : Int32) (two : Int32) : L4_j343 σ ξ one two = 0 ∨ L4_j343 σ ξ one two = 1 := by
  unfold L4_j343
  (repeat' split) <;> first | exact Or.inl (by with_reducible rfl) | exact Or.inr (by with_reducible rfl)
def L4_j772 (σ : St) (ξ : St) (one : Int32) (two : Int32) : Int32 := (if (L4_j331 σ ξ one two) = (0 : Int32) then (0 : Int32) else (((σ 3 (ix (((6 : Int32) * (one - one / ((σ 7 (ix (3 : Int32))) + (1 : Int32)) * ((σ 7 (ix (3 : Int32))) + (1 : Int32)))) + (2 : Int32)))) / (4 : Int32)) - ((σ 3 (ix (((6 : Int32) * (one - one / ((σ 7 (ix (3 : Int32))) + (1 : Int32)) * ((σ 7 (ix (3 : Int32))) + (1 : Int32)))) + (2 : Int32)))) / (4 : Int32)) / (16 : Int32) * (16 : Int32)))
def L4_j798 (σ : St) (ξ : St) (one : Int32) (two : Int32) : Int32 := (if (L4_j331 σ ξ one two) = (0 : Int32) then (0 : Int32) else ((σ 3 (ix (((6 : Int32) * (one - one / ((σ 7 (ix (3 : Int32))) + (1 : Int32)) * ((σ 7 (ix (3 : Int32))) + (1 : Int32)))) + (2 : Int32)))) / (64 : Int32)))
def L4_j822 (σ : St) (ξ : St) (one : Int32) (two : Int32) : Int32 := (if (L4_j331 σ ξ one two) = (0 : Int32) then (0 : Int32) else (((σ 3 (ix ((6 : Int32) * (one - one / ((σ 7 (ix (3 : Int32))) + (1 : Int32)) * ((σ 7 (ix (3 : Int32))) + (1 : Int32)))))) / (64 : Int32)) - ((σ 3 (ix ((6 : Int32) * (one - one / ((σ 7 (ix (3 : Int32))) + (1 : Int32)) * ((σ 7 (ix (3 : Int32))) + (1 : Int32)))))) / (64 : Int32)) / (2 : Int32) * (2 : Int32)))
def L4_j893 (σ : St) (ξ : St) (one : Int32) (two : Int32) : Int32 := (if (((L4_j772 σ ξ one two) - (1 : Int32)) + (two - two / (5 : Int32) * (5 : Int32))) < (L4_j772 σ ξ one two) then (0 : Int32) else (if (11 : Int32) ≤ (((L4_j772 σ ξ one two) - (1 : Int32)) + (two - two / (5 : Int32) * (5 : Int32))) then (0 : Int32) else (if (((L4_j798 σ ξ one two) - (1 : Int32)) + ((two / (5 : Int32)) - (two / (5 : Int32)) / (4 : Int32) * (4 : Int32))) < (L4_j798 σ ξ one two) then (0 : Int32) else (if (11 : Int32) ≤ (((L4_j798 σ ξ one two) - (1 : Int32)) + ((two / (5 : Int32)) - (two / (5 : Int32)) / (4 : Int32) * (4 : Int32))) then (0 : Int32) else (if (σ 2 (ix ((4 : Int32) * (L4_j822 σ ξ one two)))) < (((two / (20 : Int32)) - (two / (20 : Int32)) / (20 : Int32) * (20 : Int32)) + ((two / (400 : Int32)) - (two / (400 : Int32)) / (12 : Int32) * (12 : Int32))) then (0 : Int32) else (1 : Int32))))))
theorem L4_j893_b (σ : St) (ξ : St) (one : Int32) (two : Int32) : L4_j893 σ ξ one two = 0 ∨ L4_j893 σ ξ one two = 1 := by
  unfold L4_j893
  (repeat' split) <;> first | exact Or.inl (by with_reducible rfl) | exact Or.inr (by with_reducible rfl)
def L4_j940 (σ : St) (ξ : St) (one : Int32) (two : Int32) : Int32 := (if (L4_j331 σ ξ one two) = (0 : Int32) then (0 : Int32) else (if (L4_j893 σ ξ one two) = (0 : Int32) then (0 : Int32) else (if (L4_j343 σ ξ one two) = (0 : Int32) then (if (L4_j772 σ ξ one two) < (((L4_j772 σ ξ one two) - (1 : Int32)) + (two - two / (5 : Int32) * (5 : Int32))) then (1 : Int32) else (if (((L4_j798 σ ξ one two) - (1 : Int32)) + ((two / (5 : Int32)) - (two / (5 : Int32)) / (4 : Int32) * (4 : Int32))) ≤ (L4_j798 σ ξ one two) then (0 : Int32) else (1 : Int32))) else (0 : Int32))))
theorem L4_j940_b (σ : St) (ξ : St) (one : Int32) (two : Int32) : L4_j940 σ ξ one two = 0 ∨ L4_j940 σ ξ one two = 1 := by
  unfold L4_j940
  (repeat' split) <;> first | exact Or.inl (by with_reducible rfl) | exact Or.inr (by with_reducible rfl)
def L4_j1001 (σ : St) (ξ : St) (one : Int32) (two : Int32) : Int32 := (if (L4_j940 σ ξ one two) = (0 : Int32) then (0 : Int32) else (if ((two / (20 : Int32)) - (two / (20 : Int32)) / (20 : Int32) * (20 : Int32)) ≤ ((two / (400 : Int32)) - (two / (400 : Int32)) / (12 : Int32) * (12 : Int32)) then (0 : Int32) else (if (((((two / (20 : Int32)) - (two / (20 : Int32)) / (20 : Int32) * (20 : Int32)) + ((two / (400 : Int32)) - (two / (400 : Int32)) / (12 : Int32) * (12 : Int32))) + ((two / (20 : Int32)) - (two / (20 : Int32)) / (20 : Int32) * (20 : Int32))) + ((two / (400 : Int32)) - (two / (400 : Int32)) / (12 : Int32) * (12 : Int32))) < (σ 2 (ix ((4 : Int32) * (L4_j822 σ ξ one two)))) then (0 : Int32) else (if (σ 2 (ix (((4 : Int32) * (L4_j822 σ ξ one two)) + (1 : Int32)))) < (((((2 : Int32) * ((((L4_j772 σ ξ one two) - (1 : Int32)) + (two - two / (5 : Int32) * (5 : Int32))) - (L4_j772 σ ξ one two))) + ((3 : Int32) * ((((L4_j798 σ ξ one two) - (1 : Int32)) + ((two / (5 : Int32)) - (two / (5 : Int32)) / (4 : Int32) * (4 : Int32))) - (L4_j798 σ ξ one two)))) + (1 : Int32)) / (2 : Int32)) then (0 : Int32) else (1 : Int32)))))
theorem L4_j1001_b (σ : St) (ξ : St) (one : Int32) (two : Int32) : L4_j1001 σ ξ one two = 0 ∨ L4_j1001 σ ξ one two = 1 := by
  unfold L4_j1001
  (repeat' split) <;> first | exact Or.inl (by with_reducible rfl) | exact Or.inr (by with_reducible rfl)
def L4_j1053_s (σ : St) (ξ : St) (one : Int32) (two : Int32) : St := (if (L4_j1001 σ ξ one two) = (0 : Int32) then σ else (sS (sS (sS σ 3 (ix (((6 : Int32) * (one - one / ((σ 7 (ix (3 : Int32))) + (1 : Int32)) * ((σ 7 (ix (3 : Int32))) + (1 : Int32)))) + (2 : Int32))) ((((σ 3 (ix (((6 : Int32) * (one - one / ((σ 7 (ix (3 : Int32))) + (1 : Int32)) * ((σ 7 (ix (3 : Int32))) + (1 : Int32)))) + (2 : Int32)))) - (σ 3 (ix (((6 : Int32) * (one - one / ((σ 7 (ix (3 : Int32))) + (1 : Int32)) * ((σ 7 (ix (3 : Int32))) + (1 : Int32)))) + (2 : Int32)))) / (4 : Int32) * (4 : Int32)) + ((4 : Int32) * (((L4_j772 σ ξ one two) - (1 : Int32)) + (two - two / (5 : Int32) * (5 : Int32))))) + ((64 : Int32) * (((L4_j798 σ ξ one two) - (1 : Int32)) + ((two / (5 : Int32)) - (two / (5 : Int32)) / (4 : Int32) * (4 : Int32)))))) 3 (ix (((6 : Int32) * (one - one / ((σ 7 (ix (3 : Int32))) + (1 : Int32)) * ((σ 7 (ix (3 : Int32))) + (1 : Int32)))) + (5 : Int32))) ((σ 7 (ix (0 : Int32))) + (8760 : Int32))) 2 (ix (((4 : Int32) * (L4_j822 σ ξ one two)) + (1 : Int32))) ((σ 2 (ix (((4 : Int32) * (L4_j822 σ ξ one two)) + (1 : Int32)))) - (((((2 : Int32) * ((((L4_j772 σ ξ one two) - (1 : Int32)) + (two - two / (5 : Int32) * (5 : Int32))) - (L4_j772 σ ξ one two))) + ((3 : Int32) * ((((L4_j798 σ ξ one two) - (1 : Int32)) + ((two / (5 : Int32)) - (two / (5 : Int32)) / (4 : Int32) * (4 : Int32))) - (L4_j798 σ ξ one two)))) + (1 : Int32)) / (2 : Int32)))))
def L4_j1138 (σ : St) (ξ : St) (one : Int32) (two : Int32) : Int32 := (if (L4_j331 σ ξ one two) = (0 : Int32) then (-3000000 : Int32) else (if (L4_j893 σ ξ one two) = (0 : Int32) then (-2000000 : Int32) else (if (L4_j940 σ ξ one two) = (0 : Int32) then (-1000000 : Int32) else (if (L4_j1001 σ ξ one two) = (0 : Int32) then (-1 : Int32) else (((((2 : Int32) * ((((L4_j772 σ ξ one two) - (1 : Int32)) + (two - two / (5 : Int32) * (5 : Int32))) - (L4_j772 σ ξ one two))) + ((3 : Int32) * ((((L4_j798 σ ξ one two) - (1 : Int32)) + ((two / (5 : Int32)) - (two / (5 : Int32)) / (4 : Int32) * (4 : Int32))) - (L4_j798 σ ξ one two)))) + (1 : Int32)) / (2 : Int32))))))
def L4_j1177 (σ : St) (ξ : St) (one : Int32) (two : Int32) : Int32 := (if (DV_9 ξ (one - one / ((σ 7 (ix (3 : Int32))) + (1 : Int32)) * ((σ 7 (ix (3 : Int32))) + (1 : Int32))) (((L4_j772 σ ξ one two) - (1 : Int32)) + (two - two / (5 : Int32) * (5 : Int32))) (((L4_j798 σ ξ one two) - (1 : Int32)) + ((two / (5 : Int32)) - (two / (5 : Int32)) / (4 : Int32) * (4 : Int32))) ((two / (20 : Int32)) - (two / (20 : Int32)) / (20 : Int32) * (20 : Int32)) ((two / (400 : Int32)) - (two / (400 : Int32)) / (12 : Int32) * (12 : Int32))) = (L4_j1138 σ ξ one two) then (1 : Int32) else (0 : Int32))
theorem L4_j1177_b (σ : St) (ξ : St) (one : Int32) (two : Int32) : L4_j1177 σ ξ one two = 0 ∨ L4_j1177 σ ξ one two = 1 := by
  unfold L4_j1177
  (repeat' split) <;> first | exact Or.inl (by with_reducible rfl) | exact Or.inr (by with_reducible rfl)
def L4 (σ : St) (ξ : St) (one : Int32) (two : Int32) : Int32 := (L4_j1177 σ ξ one two)
def L4_s (σ : St) (ξ : St) (one : Int32) (two : Int32) : St := (L4_j1053_s σ ξ one two)
def L4_x (σ : St) (ξ : St) (one : Int32) (two : Int32) : St := (M_vote_s ξ (one - one / ((σ 7 (ix (3 : Int32))) + (1 : Int32)) * ((σ 7 (ix (3 : Int32))) + (1 : Int32))) (((L4_j772 σ ξ one two) - (1 : Int32)) + (two - two / (5 : Int32) * (5 : Int32))) (((L4_j798 σ ξ one two) - (1 : Int32)) + ((two / (5 : Int32)) - (two / (5 : Int32)) / (4 : Int32) * (4 : Int32))) ((two / (20 : Int32)) - (two / (20 : Int32)) / (20 : Int32) * (20 : Int32)) ((two / (400 : Int32)) - (two / (400 : Int32)) / (12 : Int32) * (12 : Int32)))
theorem L4_b (σ : St) (ξ : St) (one : Int32) (two : Int32) : (L4 σ ξ one two) = 0 ∨ (L4 σ ξ one two) = 1 := by
  unfold L4
  (repeat' split) <;> first | exact Or.inl (by with_reducible rfl) | exact Or.inr (by with_reducible rfl) | exact L4_j1177_b ..
theorem L4_is {σ ξ : St} {one two : Int32} (hI : IL σ) (h1 : vp_in one 60000) (c : ¬ L4_j331 σ ξ one two = 0) : vp_in (one - one / ((σ 7 (ix (3 : Int32))) + (1 : Int32)) * ((σ 7 (ix (3 : Int32))) + (1 : Int32))) (ix (σ 7 (ix (3 : Int32)))) ∧ vp_in (one - one / ((σ 7 (ix (3 : Int32))) + (1 : Int32)) * ((σ 7 (ix (3 : Int32))) + (1 : Int32))) 10 := by
  unfold L4_j331 at c
  split at c
  · exact absurd rfl c
  · have h := below (remv h1 (by decide) (IL_7_3 hI) (by decide)) (by decide) (IL_7_3 hI) (by decide) (by assumption)
    exact ⟨h, vp_up h (cnt (N := 10) (IL_7_3 hI) (by decide)).2⟩
theorem L4_pis {σ ξ : St} {one two : Int32} (c : ¬ L4_j1001 σ ξ one two = 0) : ¬ L4_j331 σ ξ one two = 0 := by
  intro z
  unfold L4_j1001 at c
  rw [if_pos (by unfold L4_j940; rw [if_pos z])] at c
  exact c rfl
theorem L4_ow {σ ξ : St} {one two : Int32} (hI : IL σ) (h1 : vp_in one 60000) : vp_in (L4_j822 σ ξ one two) 2 := by
  unfold L4_j822
  split
  · exact vp_in_nI (n := 0) (by decide) (by decide)
  · exact vr_rem (c := 2) (vr_div (c := 64) (IL_3_0 hI (L4_is (ξ := ξ) (two := two) hI h1 (by assumption)).2) (by decide) (by decide) (by decide)) (by decide) (by decide) (by decide)
set_option maxRecDepth 100000 in
set_option maxHeartbeats 4000000 in
theorem c_L4 {l : Launch} {D : va_G} {ca : Nat → Nat} {h hx : fH} {r : Nat} {α : Nat → Nat} {σ ξ : St} (hL : LH ca hx h α σ) (hX : RA ca hx r ξ) (hIX : InvX ξ) (hIO : InvO ξ) (hQ : LQ ξ σ) (one : Int32) (two : Int32) (h1 : vp_in one 60000) (h2 : vp_in two 60000) : FM l D ca yL_isLit (.code yL_isLit cL_isLit 25 (some .boolean)) { frames := 10, cells := 8, slots := 48, locals := 207 } [.ref r, .ref (α 0), .ref (α 1), .ref (α 2), .ref (α 3), .ref (α 4), .ref (α 7), .int (4 : Int32), .int one, .int two] h (fun v h2 => v = some (.int (L4 σ ξ one two)) ∧ ∃ hx2, LH ca hx2 h2 α (L4_s σ ξ one two) ∧ RA ca hx2 r (L4_x σ ξ one two)) noX := by
  refine FM.of [some (.ref r), some (.ref (α 0)), some (.ref (α 1)), some (.ref (α 2)), some (.ref (α 3)), some (.ref (α 4)), some (.ref (α 7)), some (.int (4 : Int32)), some (.int one), some (.int two), none, none, none, none, none, none, none, none, none, none, none, none, none, none, none] (by decide) (Nat.le_of_ble_eq_true rfl) rfl ?_
  rintro K X rfl rfl rfl
  have hI := IL_of hQ hIX
  have q_v : (L4 σ ξ one two) = (L4_j1177 σ ξ one two) := rfl
  have q_s : (L4_s σ ξ one two) = (L4_j1053_s σ ξ one two) := rfl
  have q_x : (L4_x σ ξ one two) = (M_vote_s ξ (one - one / ((σ 7 (ix (3 : Int32))) + (1 : Int32)) * ((σ 7 (ix (3 : Int32))) + (1 : Int32))) (((L4_j772 σ ξ one two) - (1 : Int32)) + (two - two / (5 : Int32) * (5 : Int32))) (((L4_j798 σ ξ one two) - (1 : Int32)) + ((two / (5 : Int32)) - (two / (5 : Int32)) / (4 : Int32) * (4 : Int32))) ((two / (20 : Int32)) - (two / (20 : Int32)) / (20 : Int32) * (20 : Int32)) ((two / (400 : Int32)) - (two / (400 : Int32)) / (12 : Int32) * (12 : Int32))) := rfl
  refine J_iload_7 X dL_isLit_0 ?_
  refine J_if_ne (tgt := 314) X dL_isLit_2 (by decide) (fun _ => ?_) (fun c => absurd c (by decide))
  refine J_iload_8 X dL_isLit_314 ?_
  refine J_aload_6 X dL_isLit_316 ?_
  refine J_iconst (v := 3) X dL_isLit_318 rfl ?_
  refine JL_ld X hL.la 7 (by decide) (vp_up (vp_in_nI (n := 3) (N := 4) (by decide) (by decide)) (by decide)) dL_isLit_319 ?_
  refine J_iconst (v := 1) X dL_isLit_320 rfl ?_
  refine J_iadd X dL_isLit_321 ?_
  refine J_irem X dL_isLit_322 (gp1 (IL_7_3 hI) (by decide)) ?_
  refine J_istore_10 X dL_isLit_323 rfl (by decide) ?_
  refine J_iload_10 X dL_isLit_325 ?_
  refine J_aload_6 X dL_isLit_327 ?_
  refine J_iconst (v := 3) X dL_isLit_329 rfl ?_
  refine JL_ld X hL.la 7 (by decide) (vp_up (vp_in_nI (n := 3) (N := 4) (by decide) (by decide)) (by decide)) dL_isLit_330 ?_
  have K331_339 : ∀ (v331_0 : Int32), v331_0 = (L4_j331 σ ξ one two) → J K h [some (.ref r), some (.ref (α 0)), some (.ref (α 1)), some (.ref (α 2)), some (.ref (α 3)), some (.ref (α 4)), some (.ref (α 7)), some (.int (4 : Int32)), some (.int one), some (.int two), some (.int (one - one / ((σ 7 (ix (3 : Int32))) + (1 : Int32)) * ((σ 7 (ix (3 : Int32))) + (1 : Int32)))), none, none, none, none, none, none, none, none, none, none, none, none, none, none] [.int v331_0] 339 0 0 := by
    intro v331_0 ev331_0
    try rw [ev331_0]
    clear ev331_0
    refine J_istore_11 X dL_isLit_339 rfl (by decide) ?_
    refine J_iload_11 X dL_isLit_341 ?_
    have K343_368 : ∀ (v343_0 : Int32), v343_0 = (L4_j343 σ ξ one two) → J K h [some (.ref r), some (.ref (α 0)), some (.ref (α 1)), some (.ref (α 2)), some (.ref (α 3)), some (.ref (α 4)), some (.ref (α 7)), some (.int (4 : Int32)), some (.int one), some (.int two), some (.int (one - one / ((σ 7 (ix (3 : Int32))) + (1 : Int32)) * ((σ 7 (ix (3 : Int32))) + (1 : Int32)))), some (.int (L4_j331 σ ξ one two)), none, none, none, none, none, none, none, none, none, none, none, none, none] [.int v343_0] 368 0 0 := by
      intro v343_0 ev343_0
      try rw [ev343_0]
      clear ev343_0
      refine J_istore_12 X dL_isLit_368 rfl (by decide) ?_
      refine J_iload_7 X dL_isLit_370 ?_
      refine J_iconst (v := 1) X dL_isLit_372 rfl ?_
      refine J_icmp_ne (tgt := 499) X dL_isLit_373 (by decide) (fun _ => ?_) (fun c => absurd c (by decide))
      refine J_iload_7 X dL_isLit_499 ?_
      refine J_iconst (v := 2) X dL_isLit_501 rfl ?_
      refine J_icmp_ne (tgt := 596) X dL_isLit_502 (by decide) (fun _ => ?_) (fun c => absurd c (by decide))
      refine J_iload_7 X dL_isLit_596 ?_
      refine J_iconst (v := 3) X dL_isLit_598 rfl ?_
      refine J_icmp_ne (tgt := 764) X dL_isLit_599 (by decide) (fun _ => ?_) (fun c => absurd c (by decide))
      refine J_iload_7 X dL_isLit_764 ?_
      refine J_iconst (v := 4) X dL_isLit_766 rfl ?_
      refine J_icmp_ne (tgt := 1186) X dL_isLit_767 (by decide) (fun c => absurd (by decide) c) (fun _ => ?_)
      refine J_iload_11 X dL_isLit_770 ?_
      have K772_794 : ∀ (v772_0 : Int32), v772_0 = (L4_j772 σ ξ one two) → J K h [some (.ref r), some (.ref (α 0)), some (.ref (α 1)), some (.ref (α 2)), some (.ref (α 3)), some (.ref (α 4)), some (.ref (α 7)), some (.int (4 : Int32)), some (.int one), some (.int two), some (.int (one - one / ((σ 7 (ix (3 : Int32))) + (1 : Int32)) * ((σ 7 (ix (3 : Int32))) + (1 : Int32)))), some (.int (L4_j331 σ ξ one two)), some (.int (L4_j343 σ ξ one two)), none, none, none, none, none, none, none, none, none, none, none, none] [.int v772_0] 794 0 0 := by
        intro v772_0 ev772_0
        try rw [ev772_0]
        clear ev772_0
        refine J_istore_13 X dL_isLit_794 rfl (by decide) ?_
        refine J_iload_11 X dL_isLit_796 ?_
        have K798_818 : ∀ (v798_0 : Int32), v798_0 = (L4_j798 σ ξ one two) → J K h [some (.ref r), some (.ref (α 0)), some (.ref (α 1)), some (.ref (α 2)), some (.ref (α 3)), some (.ref (α 4)), some (.ref (α 7)), some (.int (4 : Int32)), some (.int one), some (.int two), some (.int (one - one / ((σ 7 (ix (3 : Int32))) + (1 : Int32)) * ((σ 7 (ix (3 : Int32))) + (1 : Int32)))), some (.int (L4_j331 σ ξ one two)), some (.int (L4_j343 σ ξ one two)), some (.int (L4_j772 σ ξ one two)), none, none, none, none, none, none, none, none, none, none, none] [.int v798_0] 818 0 0 := by
          intro v798_0 ev798_0
          try rw [ev798_0]
          clear ev798_0
          refine J_istore_14 X dL_isLit_818 rfl (by decide) ?_
          refine J_iload_11 X dL_isLit_820 ?_
          have K822_842 : ∀ (v822_0 : Int32), v822_0 = (L4_j822 σ ξ one two) → J K h [some (.ref r), some (.ref (α 0)), some (.ref (α 1)), some (.ref (α 2)), some (.ref (α 3)), some (.ref (α 4)), some (.ref (α 7)), some (.int (4 : Int32)), some (.int one), some (.int two), some (.int (one - one / ((σ 7 (ix (3 : Int32))) + (1 : Int32)) * ((σ 7 (ix (3 : Int32))) + (1 : Int32)))), some (.int (L4_j331 σ ξ one two)), some (.int (L4_j343 σ ξ one two)), some (.int (L4_j772 σ ξ one two)), some (.int (L4_j798 σ ξ one two)), none, none, none, none, none, none, none, none, none, none] [.int v822_0] 842 0 0 := by
            intro v822_0 ev822_0
            try rw [ev822_0]
            clear ev822_0
            refine J_istore_15 X dL_isLit_842 rfl (by decide) ?_
            refine J_iload_13 X dL_isLit_844 ?_
            refine J_iconst (v := 1) X dL_isLit_846 rfl ?_
            refine J_isub X dL_isLit_847 ?_
            refine J_iload_9 X dL_isLit_848 ?_
            refine J_iconst (v := 5) X dL_isLit_850 rfl ?_
            refine J_irem X dL_isLit_851 (by decide) ?_
            refine J_iadd X dL_isLit_852 ?_
            refine J_istore_16 X dL_isLit_853 rfl (by decide) ?_
            refine J_iload_14 X dL_isLit_855 ?_
            refine J_iconst (v := 1) X dL_isLit_857 rfl ?_
            refine J_isub X dL_isLit_858 ?_
            refine J_iload_9 X dL_isLit_859 ?_
            refine J_iconst (v := 5) X dL_isLit_861 rfl ?_
            refine J_idiv X dL_isLit_862 (by decide) ?_
            refine J_iconst (v := 4) X dL_isLit_863 rfl ?_
            refine J_irem X dL_isLit_864 (by decide) ?_
            refine J_iadd X dL_isLit_865 ?_
            refine J_istore_17 X dL_isLit_866 rfl (by decide) ?_
            refine J_iload_9 X dL_isLit_868 ?_
            refine J_bipush (v := (20 : Int32)) X dL_isLit_870 (by decide) ?_
            refine J_idiv X dL_isLit_872 (by decide) ?_
            refine J_bipush (v := (20 : Int32)) X dL_isLit_873 (by decide) ?_
            refine J_irem X dL_isLit_875 (by decide) ?_
            refine J_istore_18 X dL_isLit_876 rfl (by decide) ?_
            refine J_iload_9 X dL_isLit_878 ?_
            refine J_sipush (v := (400 : Int32)) X dL_isLit_880 (by decide) ?_
            refine J_idiv X dL_isLit_883 (by decide) ?_
            refine J_bipush (v := (12 : Int32)) X dL_isLit_884 (by decide) ?_
            refine J_irem X dL_isLit_886 (by decide) ?_
            refine J_istore_19 X dL_isLit_887 rfl (by decide) ?_
            refine J_iload_16 X dL_isLit_889 ?_
            refine J_iload_13 X dL_isLit_891 ?_
            have K893_936 : ∀ (v893_0 : Int32), v893_0 = (L4_j893 σ ξ one two) → J K h [some (.ref r), some (.ref (α 0)), some (.ref (α 1)), some (.ref (α 2)), some (.ref (α 3)), some (.ref (α 4)), some (.ref (α 7)), some (.int (4 : Int32)), some (.int one), some (.int two), some (.int (one - one / ((σ 7 (ix (3 : Int32))) + (1 : Int32)) * ((σ 7 (ix (3 : Int32))) + (1 : Int32)))), some (.int (L4_j331 σ ξ one two)), some (.int (L4_j343 σ ξ one two)), some (.int (L4_j772 σ ξ one two)), some (.int (L4_j798 σ ξ one two)), some (.int (L4_j822 σ ξ one two)), some (.int (((L4_j772 σ ξ one two) - (1 : Int32)) + (two - two / (5 : Int32) * (5 : Int32)))), some (.int (((L4_j798 σ ξ one two) - (1 : Int32)) + ((two / (5 : Int32)) - (two / (5 : Int32)) / (4 : Int32) * (4 : Int32)))), some (.int ((two / (20 : Int32)) - (two / (20 : Int32)) / (20 : Int32) * (20 : Int32))), some (.int ((two / (400 : Int32)) - (two / (400 : Int32)) / (12 : Int32) * (12 : Int32))), none, none, none, none, none] [.int v893_0] 936 0 0 := by
              intro v893_0 ev893_0
              try rw [ev893_0]
              clear ev893_0
              refine J_istore_20 X dL_isLit_936 rfl (by decide) ?_
              refine J_iload_11 X dL_isLit_938 ?_
              have K940_972 : ∀ (v940_0 : Int32), v940_0 = (L4_j940 σ ξ one two) → J K h [some (.ref r), some (.ref (α 0)), some (.ref (α 1)), some (.ref (α 2)), some (.ref (α 3)), some (.ref (α 4)), some (.ref (α 7)), some (.int (4 : Int32)), some (.int one), some (.int two), some (.int (one - one / ((σ 7 (ix (3 : Int32))) + (1 : Int32)) * ((σ 7 (ix (3 : Int32))) + (1 : Int32)))), some (.int (L4_j331 σ ξ one two)), some (.int (L4_j343 σ ξ one two)), some (.int (L4_j772 σ ξ one two)), some (.int (L4_j798 σ ξ one two)), some (.int (L4_j822 σ ξ one two)), some (.int (((L4_j772 σ ξ one two) - (1 : Int32)) + (two - two / (5 : Int32) * (5 : Int32)))), some (.int (((L4_j798 σ ξ one two) - (1 : Int32)) + ((two / (5 : Int32)) - (two / (5 : Int32)) / (4 : Int32) * (4 : Int32)))), some (.int ((two / (20 : Int32)) - (two / (20 : Int32)) / (20 : Int32) * (20 : Int32))), some (.int ((two / (400 : Int32)) - (two / (400 : Int32)) / (12 : Int32) * (12 : Int32))), some (.int (L4_j893 σ ξ one two)), none, none, none, none] [.int v940_0] 972 0 0 := by
                intro v940_0 ev940_0
                try rw [ev940_0]
                clear ev940_0
                refine J_istore_21 X dL_isLit_972 rfl (by decide) ?_
                refine J_iconst (v := 2) X dL_isLit_974 rfl ?_
                refine J_iload_16 X dL_isLit_975 ?_
                refine J_iload_13 X dL_isLit_977 ?_
                refine J_isub X dL_isLit_979 ?_
                refine J_imul X dL_isLit_980 ?_
                refine J_iconst (v := 3) X dL_isLit_981 rfl ?_
                refine J_iload_17 X dL_isLit_982 ?_
                refine J_iload_14 X dL_isLit_984 ?_
                refine J_isub X dL_isLit_986 ?_
                refine J_imul X dL_isLit_987 ?_
                refine J_iadd X dL_isLit_988 ?_
                refine J_istore_22 X dL_isLit_989 rfl (by decide) ?_
                refine J_iload_22 X dL_isLit_991 ?_
                refine J_iconst (v := 1) X dL_isLit_993 rfl ?_
                refine J_iadd X dL_isLit_994 ?_
                refine J_iconst (v := 2) X dL_isLit_995 rfl ?_
                refine J_idiv X dL_isLit_996 (by decide) ?_
                refine J_istore_23 X dL_isLit_997 rfl (by decide) ?_
                refine J_iload_21 X dL_isLit_999 ?_
                have K1001_1049 : ∀ (v1001_0 : Int32), v1001_0 = (L4_j1001 σ ξ one two) → J K h [some (.ref r), some (.ref (α 0)), some (.ref (α 1)), some (.ref (α 2)), some (.ref (α 3)), some (.ref (α 4)), some (.ref (α 7)), some (.int (4 : Int32)), some (.int one), some (.int two), some (.int (one - one / ((σ 7 (ix (3 : Int32))) + (1 : Int32)) * ((σ 7 (ix (3 : Int32))) + (1 : Int32)))), some (.int (L4_j331 σ ξ one two)), some (.int (L4_j343 σ ξ one two)), some (.int (L4_j772 σ ξ one two)), some (.int (L4_j798 σ ξ one two)), some (.int (L4_j822 σ ξ one two)), some (.int (((L4_j772 σ ξ one two) - (1 : Int32)) + (two - two / (5 : Int32) * (5 : Int32)))), some (.int (((L4_j798 σ ξ one two) - (1 : Int32)) + ((two / (5 : Int32)) - (two / (5 : Int32)) / (4 : Int32) * (4 : Int32)))), some (.int ((two / (20 : Int32)) - (two / (20 : Int32)) / (20 : Int32) * (20 : Int32))), some (.int ((two / (400 : Int32)) - (two / (400 : Int32)) / (12 : Int32) * (12 : Int32))), some (.int (L4_j893 σ ξ one two)), some (.int (L4_j940 σ ξ one two)), some (.int (((2 : Int32) * ((((L4_j772 σ ξ one two) - (1 : Int32)) + (two - two / (5 : Int32) * (5 : Int32))) - (L4_j772 σ ξ one two))) + ((3 : Int32) * ((((L4_j798 σ ξ one two) - (1 : Int32)) + ((two / (5 : Int32)) - (two / (5 : Int32)) / (4 : Int32) * (4 : Int32))) - (L4_j798 σ ξ one two))))), some (.int (((((2 : Int32) * ((((L4_j772 σ ξ one two) - (1 : Int32)) + (two - two / (5 : Int32) * (5 : Int32))) - (L4_j772 σ ξ one two))) + ((3 : Int32) * ((((L4_j798 σ ξ one two) - (1 : Int32)) + ((two / (5 : Int32)) - (two / (5 : Int32)) / (4 : Int32) * (4 : Int32))) - (L4_j798 σ ξ one two)))) + (1 : Int32)) / (2 : Int32))), none] [.int v1001_0] 1049 0 0 := by
                  intro v1001_0 ev1001_0
                  try rw [ev1001_0]
                  clear ev1001_0
                  refine J_istore_24 X dL_isLit_1049 rfl (by decide) ?_
                  refine J_iload_24 X dL_isLit_1051 ?_
                  have K1053_1120 : ∀ hj11 : fH, LH (kca K) hx hj11 α (L4_j1053_s σ ξ one two) → J K hj11 [some (.ref r), some (.ref (α 0)), some (.ref (α 1)), some (.ref (α 2)), some (.ref (α 3)), some (.ref (α 4)), some (.ref (α 7)), some (.int (4 : Int32)), some (.int one), some (.int two), some (.int (one - one / ((σ 7 (ix (3 : Int32))) + (1 : Int32)) * ((σ 7 (ix (3 : Int32))) + (1 : Int32)))), some (.int (L4_j331 σ ξ one two)), some (.int (L4_j343 σ ξ one two)), some (.int (L4_j772 σ ξ one two)), some (.int (L4_j798 σ ξ one two)), some (.int (L4_j822 σ ξ one two)), some (.int (((L4_j772 σ ξ one two) - (1 : Int32)) + (two - two / (5 : Int32) * (5 : Int32)))), some (.int (((L4_j798 σ ξ one two) - (1 : Int32)) + ((two / (5 : Int32)) - (two / (5 : Int32)) / (4 : Int32) * (4 : Int32)))), some (.int ((two / (20 : Int32)) - (two / (20 : Int32)) / (20 : Int32) * (20 : Int32))), some (.int ((two / (400 : Int32)) - (two / (400 : Int32)) / (12 : Int32) * (12 : Int32))), some (.int (L4_j893 σ ξ one two)), some (.int (L4_j940 σ ξ one two)), some (.int (((2 : Int32) * ((((L4_j772 σ ξ one two) - (1 : Int32)) + (two - two / (5 : Int32) * (5 : Int32))) - (L4_j772 σ ξ one two))) + ((3 : Int32) * ((((L4_j798 σ ξ one two) - (1 : Int32)) + ((two / (5 : Int32)) - (two / (5 : Int32)) / (4 : Int32) * (4 : Int32))) - (L4_j798 σ ξ one two))))), some (.int (((((2 : Int32) * ((((L4_j772 σ ξ one two) - (1 : Int32)) + (two - two / (5 : Int32) * (5 : Int32))) - (L4_j772 σ ξ one two))) + ((3 : Int32) * ((((L4_j798 σ ξ one two) - (1 : Int32)) + ((two / (5 : Int32)) - (two / (5 : Int32)) / (4 : Int32) * (4 : Int32))) - (L4_j798 σ ξ one two)))) + (1 : Int32)) / (2 : Int32))), some (.int (L4_j1001 σ ξ one two))] [] 1120 0 0 := by
                    intro hj11 hRj11
                    refine J_aload_0 X dL_isLit_1120 ?_
                    refine J_bipush (v := (9 : Int32)) X dL_isLit_1121 (by decide) ?_
                    refine J_iload_10 X dL_isLit_1123 ?_
                    refine J_iload_16 X dL_isLit_1125 ?_
                    refine J_iload_17 X dL_isLit_1127 ?_
                    refine J_iload_18 X dL_isLit_1129 ?_
                    refine J_iload_19 X dL_isLit_1131 ?_
                    obtain ⟨la, eh, hap, hLA, hα⟩ := hRj11
                    subst eh
                    refine J_callSW X ((c_D_9 hX hIX hIO (one - one / ((σ 7 (ix (3 : Int32))) + (1 : Int32)) * ((σ 7 (ix (3 : Int32))) + (1 : Int32))) (((L4_j772 σ ξ one two) - (1 : Int32)) + (two - two / (5 : Int32) * (5 : Int32))) (((L4_j798 σ ξ one two) - (1 : Int32)) + ((two / (5 : Int32)) - (two / (5 : Int32)) / (4 : Int32) * (4 : Int32))) ((two / (20 : Int32)) - (two / (20 : Int32)) / (20 : Int32) * (20 : Int32)) ((two / (400 : Int32)) - (two / (400 : Int32)) / (12 : Int32) * (12 : Int32))).frame hap) (And.intro gw_2_177 cw_L_does) rfl rfl (Nat.le_of_ble_eq_true rfl) dL_isLit_1133 rfl (fun v h12 e => ?_) (fun E h12 e => by obtain ⟨_, q, _⟩ := e; exact q.elim)
                    obtain ⟨hx12, ⟨e0, hX12⟩, hap12, eh⟩ := e
                    subst e0
                    subst eh
                    have hR12 : LH (kca K) hx12 (un hx12 la) α (L4_j1053_s σ ξ one two) := ⟨la, rfl, hap12, hLA, hα⟩
                    show J K (un hx12 la) [some (.ref r), some (.ref (α 0)), some (.ref (α 1)), some (.ref (α 2)), some (.ref (α 3)), some (.ref (α 4)), some (.ref (α 7)), some (.int (4 : Int32)), some (.int one), some (.int two), some (.int (one - one / ((σ 7 (ix (3 : Int32))) + (1 : Int32)) * ((σ 7 (ix (3 : Int32))) + (1 : Int32)))), some (.int (L4_j331 σ ξ one two)), some (.int (L4_j343 σ ξ one two)), some (.int (L4_j772 σ ξ one two)), some (.int (L4_j798 σ ξ one two)), some (.int (L4_j822 σ ξ one two)), some (.int (((L4_j772 σ ξ one two) - (1 : Int32)) + (two - two / (5 : Int32) * (5 : Int32)))), some (.int (((L4_j798 σ ξ one two) - (1 : Int32)) + ((two / (5 : Int32)) - (two / (5 : Int32)) / (4 : Int32) * (4 : Int32)))), some (.int ((two / (20 : Int32)) - (two / (20 : Int32)) / (20 : Int32) * (20 : Int32))), some (.int ((two / (400 : Int32)) - (two / (400 : Int32)) / (12 : Int32) * (12 : Int32))), some (.int (L4_j893 σ ξ one two)), some (.int (L4_j940 σ ξ one two)), some (.int (((2 : Int32) * ((((L4_j772 σ ξ one two) - (1 : Int32)) + (two - two / (5 : Int32) * (5 : Int32))) - (L4_j772 σ ξ one two))) + ((3 : Int32) * ((((L4_j798 σ ξ one two) - (1 : Int32)) + ((two / (5 : Int32)) - (two / (5 : Int32)) / (4 : Int32) * (4 : Int32))) - (L4_j798 σ ξ one two))))), some (.int (((((2 : Int32) * ((((L4_j772 σ ξ one two) - (1 : Int32)) + (two - two / (5 : Int32) * (5 : Int32))) - (L4_j772 σ ξ one two))) + ((3 : Int32) * ((((L4_j798 σ ξ one two) - (1 : Int32)) + ((two / (5 : Int32)) - (two / (5 : Int32)) / (4 : Int32) * (4 : Int32))) - (L4_j798 σ ξ one two)))) + (1 : Int32)) / (2 : Int32))), some (.int (L4_j1001 σ ξ one two))] [.int (DV_9 ξ (one - one / ((σ 7 (ix (3 : Int32))) + (1 : Int32)) * ((σ 7 (ix (3 : Int32))) + (1 : Int32))) (((L4_j772 σ ξ one two) - (1 : Int32)) + (two - two / (5 : Int32) * (5 : Int32))) (((L4_j798 σ ξ one two) - (1 : Int32)) + ((two / (5 : Int32)) - (two / (5 : Int32)) / (4 : Int32) * (4 : Int32))) ((two / (20 : Int32)) - (two / (20 : Int32)) / (20 : Int32) * (20 : Int32)) ((two / (400 : Int32)) - (two / (400 : Int32)) / (12 : Int32) * (12 : Int32)))] 1136 8 48
                    refine J_iload_11 X dL_isLit_1136 ?_
                    have K1138_1177 : ∀ (v1138_0 : Int32), v1138_0 = (L4_j1138 σ ξ one two) → J K (un hx12 la) [some (.ref r), some (.ref (α 0)), some (.ref (α 1)), some (.ref (α 2)), some (.ref (α 3)), some (.ref (α 4)), some (.ref (α 7)), some (.int (4 : Int32)), some (.int one), some (.int two), some (.int (one - one / ((σ 7 (ix (3 : Int32))) + (1 : Int32)) * ((σ 7 (ix (3 : Int32))) + (1 : Int32)))), some (.int (L4_j331 σ ξ one two)), some (.int (L4_j343 σ ξ one two)), some (.int (L4_j772 σ ξ one two)), some (.int (L4_j798 σ ξ one two)), some (.int (L4_j822 σ ξ one two)), some (.int (((L4_j772 σ ξ one two) - (1 : Int32)) + (two - two / (5 : Int32) * (5 : Int32)))), some (.int (((L4_j798 σ ξ one two) - (1 : Int32)) + ((two / (5 : Int32)) - (two / (5 : Int32)) / (4 : Int32) * (4 : Int32)))), some (.int ((two / (20 : Int32)) - (two / (20 : Int32)) / (20 : Int32) * (20 : Int32))), some (.int ((two / (400 : Int32)) - (two / (400 : Int32)) / (12 : Int32) * (12 : Int32))), some (.int (L4_j893 σ ξ one two)), some (.int (L4_j940 σ ξ one two)), some (.int (((2 : Int32) * ((((L4_j772 σ ξ one two) - (1 : Int32)) + (two - two / (5 : Int32) * (5 : Int32))) - (L4_j772 σ ξ one two))) + ((3 : Int32) * ((((L4_j798 σ ξ one two) - (1 : Int32)) + ((two / (5 : Int32)) - (two / (5 : Int32)) / (4 : Int32) * (4 : Int32))) - (L4_j798 σ ξ one two))))), some (.int (((((2 : Int32) * ((((L4_j772 σ ξ one two) - (1 : Int32)) + (two - two / (5 : Int32) * (5 : Int32))) - (L4_j772 σ ξ one two))) + ((3 : Int32) * ((((L4_j798 σ ξ one two) - (1 : Int32)) + ((two / (5 : Int32)) - (two / (5 : Int32)) / (4 : Int32) * (4 : Int32))) - (L4_j798 σ ξ one two)))) + (1 : Int32)) / (2 : Int32))), some (.int (L4_j1001 σ ξ one two))] [.int v1138_0, .int (DV_9 ξ (one - one / ((σ 7 (ix (3 : Int32))) + (1 : Int32)) * ((σ 7 (ix (3 : Int32))) + (1 : Int32))) (((L4_j772 σ ξ one two) - (1 : Int32)) + (two - two / (5 : Int32) * (5 : Int32))) (((L4_j798 σ ξ one two) - (1 : Int32)) + ((two / (5 : Int32)) - (two / (5 : Int32)) / (4 : Int32) * (4 : Int32))) ((two / (20 : Int32)) - (two / (20 : Int32)) / (20 : Int32) * (20 : Int32)) ((two / (400 : Int32)) - (two / (400 : Int32)) / (12 : Int32) * (12 : Int32)))] 1177 8 48 := by
                      intro v1138_0 ev1138_0
                      try rw [ev1138_0]
                      clear ev1138_0
                      have K1177_1185 : ∀ (v1177_0 : Int32), v1177_0 = (L4_j1177 σ ξ one two) → J K (un hx12 la) [some (.ref r), some (.ref (α 0)), some (.ref (α 1)), some (.ref (α 2)), some (.ref (α 3)), some (.ref (α 4)), some (.ref (α 7)), some (.int (4 : Int32)), some (.int one), some (.int two), some (.int (one - one / ((σ 7 (ix (3 : Int32))) + (1 : Int32)) * ((σ 7 (ix (3 : Int32))) + (1 : Int32)))), some (.int (L4_j331 σ ξ one two)), some (.int (L4_j343 σ ξ one two)), some (.int (L4_j772 σ ξ one two)), some (.int (L4_j798 σ ξ one two)), some (.int (L4_j822 σ ξ one two)), some (.int (((L4_j772 σ ξ one two) - (1 : Int32)) + (two - two / (5 : Int32) * (5 : Int32)))), some (.int (((L4_j798 σ ξ one two) - (1 : Int32)) + ((two / (5 : Int32)) - (two / (5 : Int32)) / (4 : Int32) * (4 : Int32)))), some (.int ((two / (20 : Int32)) - (two / (20 : Int32)) / (20 : Int32) * (20 : Int32))), some (.int ((two / (400 : Int32)) - (two / (400 : Int32)) / (12 : Int32) * (12 : Int32))), some (.int (L4_j893 σ ξ one two)), some (.int (L4_j940 σ ξ one two)), some (.int (((2 : Int32) * ((((L4_j772 σ ξ one two) - (1 : Int32)) + (two - two / (5 : Int32) * (5 : Int32))) - (L4_j772 σ ξ one two))) + ((3 : Int32) * ((((L4_j798 σ ξ one two) - (1 : Int32)) + ((two / (5 : Int32)) - (two / (5 : Int32)) / (4 : Int32) * (4 : Int32))) - (L4_j798 σ ξ one two))))), some (.int (((((2 : Int32) * ((((L4_j772 σ ξ one two) - (1 : Int32)) + (two - two / (5 : Int32) * (5 : Int32))) - (L4_j772 σ ξ one two))) + ((3 : Int32) * ((((L4_j798 σ ξ one two) - (1 : Int32)) + ((two / (5 : Int32)) - (two / (5 : Int32)) / (4 : Int32) * (4 : Int32))) - (L4_j798 σ ξ one two)))) + (1 : Int32)) / (2 : Int32))), some (.int (L4_j1001 σ ξ one two))] [.int v1177_0] 1185 8 48 := by
                        intro v1177_0 ev1177_0
                        try rw [ev1177_0]
                        clear ev1177_0
                        exact J_zret X rfl (L4_j1177_b ..) rfl ⟨by rw [q_v], hx12, by rw [q_s]; exact hR12, by rw [q_x]; exact hX12⟩ dL_isLit_1185
                      have j1177_0 : L4_j1177 σ ξ one two = (if (DV_9 ξ (one - one / ((σ 7 (ix (3 : Int32))) + (1 : Int32)) * ((σ 7 (ix (3 : Int32))) + (1 : Int32))) (((L4_j772 σ ξ one two) - (1 : Int32)) + (two - two / (5 : Int32) * (5 : Int32))) (((L4_j798 σ ξ one two) - (1 : Int32)) + ((two / (5 : Int32)) - (two / (5 : Int32)) / (4 : Int32) * (4 : Int32))) ((two / (20 : Int32)) - (two / (20 : Int32)) / (20 : Int32) * (20 : Int32)) ((two / (400 : Int32)) - (two / (400 : Int32)) / (12 : Int32) * (12 : Int32))) = (L4_j1138 σ ξ one two) then (1 : Int32) else (0 : Int32)) := rfl
                      refine J_icmp_ne (tgt := 1184) X dL_isLit_1177 (by decide) (fun c1177 => ?_) (fun c1177 => ?_)
                      · skip
                        rw [if_neg c1177] at j1177_0
                        refine J_iconst (v := 0) X dL_isLit_1184 rfl ?_
                        exact K1177_1185 _ j1177_0.symm
                      · skip
                        rw [if_pos c1177] at j1177_0
                        refine J_iconst (v := 1) X dL_isLit_1180 rfl ?_
                        refine J_goto (tgt := 1185) X dL_isLit_1181 (by decide) ?_
                        exact K1177_1185 _ j1177_0.symm
                    have j1138_0 : L4_j1138 σ ξ one two = (if (L4_j331 σ ξ one two) = (0 : Int32) then (-3000000 : Int32) else (if (L4_j893 σ ξ one two) = (0 : Int32) then (-2000000 : Int32) else (if (L4_j940 σ ξ one two) = (0 : Int32) then (-1000000 : Int32) else (if (L4_j1001 σ ξ one two) = (0 : Int32) then (-1 : Int32) else (((((2 : Int32) * ((((L4_j772 σ ξ one two) - (1 : Int32)) + (two - two / (5 : Int32) * (5 : Int32))) - (L4_j772 σ ξ one two))) + ((3 : Int32) * ((((L4_j798 σ ξ one two) - (1 : Int32)) + ((two / (5 : Int32)) - (two / (5 : Int32)) / (4 : Int32) * (4 : Int32))) - (L4_j798 σ ξ one two)))) + (1 : Int32)) / (2 : Int32)))))) := rfl
                    refine J_if_ne (tgt := 1146) X dL_isLit_1138 (by decide) (fun c1138 => ?_) (fun c1138 => ?_)
                    · skip
                      rw [if_neg c1138] at j1138_0
                      refine J_iload_20 X dL_isLit_1146 ?_
                      refine J_if_ne (tgt := 1156) X dL_isLit_1148 (by decide) (fun c1148 => ?_) (fun c1148 => ?_)
                      · skip
                        rw [if_neg c1148] at j1138_0
                        refine J_iload_21 X dL_isLit_1156 ?_
                        refine J_if_ne (tgt := 1166) X dL_isLit_1158 (by decide) (fun c1158 => ?_) (fun c1158 => ?_)
                        · skip
                          rw [if_neg c1158] at j1138_0
                          refine J_iload_24 X dL_isLit_1166 ?_
                          refine J_if_eq (tgt := 1176) X dL_isLit_1168 (by decide) (fun c1168 => ?_) (fun c1168 => ?_)
                          · skip
                            rw [if_pos c1168] at j1138_0
                            refine J_iconst (v := -1) X dL_isLit_1176 rfl ?_
                            exact K1138_1177 _ j1138_0.symm
                          · skip
                            rw [if_neg c1168] at j1138_0
                            refine J_iload_23 X dL_isLit_1171 ?_
                            refine J_goto (tgt := 1177) X dL_isLit_1173 (by decide) ?_
                            exact K1138_1177 _ j1138_0.symm
                        · skip
                          rw [if_pos c1158] at j1138_0
                          refine J_ldc (v := (-1000000 : Int32)) X dL_isLit_1161 gw_4_74 ?_
                          refine J_goto (tgt := 1177) X dL_isLit_1163 (by decide) ?_
                          exact K1138_1177 _ j1138_0.symm
                      · skip
                        rw [if_pos c1148] at j1138_0
                        refine J_ldc (v := (-2000000 : Int32)) X dL_isLit_1151 gw_4_73 ?_
                        refine J_goto (tgt := 1177) X dL_isLit_1153 (by decide) ?_
                        exact K1138_1177 _ j1138_0.symm
                    · skip
                      rw [if_pos c1138] at j1138_0
                      refine J_ldc (v := (-3000000 : Int32)) X dL_isLit_1141 gw_4_72 ?_
                      refine J_goto (tgt := 1177) X dL_isLit_1143 (by decide) ?_
                      exact K1138_1177 _ j1138_0.symm
                  have j1053_0 : L4_j1053_s σ ξ one two = (if (L4_j1001 σ ξ one two) = (0 : Int32) then σ else (sS (sS (sS σ 3 (ix (((6 : Int32) * (one - one / ((σ 7 (ix (3 : Int32))) + (1 : Int32)) * ((σ 7 (ix (3 : Int32))) + (1 : Int32)))) + (2 : Int32))) ((((σ 3 (ix (((6 : Int32) * (one - one / ((σ 7 (ix (3 : Int32))) + (1 : Int32)) * ((σ 7 (ix (3 : Int32))) + (1 : Int32)))) + (2 : Int32)))) - (σ 3 (ix (((6 : Int32) * (one - one / ((σ 7 (ix (3 : Int32))) + (1 : Int32)) * ((σ 7 (ix (3 : Int32))) + (1 : Int32)))) + (2 : Int32)))) / (4 : Int32) * (4 : Int32)) + ((4 : Int32) * (((L4_j772 σ ξ one two) - (1 : Int32)) + (two - two / (5 : Int32) * (5 : Int32))))) + ((64 : Int32) * (((L4_j798 σ ξ one two) - (1 : Int32)) + ((two / (5 : Int32)) - (two / (5 : Int32)) / (4 : Int32) * (4 : Int32)))))) 3 (ix (((6 : Int32) * (one - one / ((σ 7 (ix (3 : Int32))) + (1 : Int32)) * ((σ 7 (ix (3 : Int32))) + (1 : Int32)))) + (5 : Int32))) ((σ 7 (ix (0 : Int32))) + (8760 : Int32))) 2 (ix (((4 : Int32) * (L4_j822 σ ξ one two)) + (1 : Int32))) ((σ 2 (ix (((4 : Int32) * (L4_j822 σ ξ one two)) + (1 : Int32)))) - (((((2 : Int32) * ((((L4_j772 σ ξ one two) - (1 : Int32)) + (two - two / (5 : Int32) * (5 : Int32))) - (L4_j772 σ ξ one two))) + ((3 : Int32) * ((((L4_j798 σ ξ one two) - (1 : Int32)) + ((two / (5 : Int32)) - (two / (5 : Int32)) / (4 : Int32) * (4 : Int32))) - (L4_j798 σ ξ one two)))) + (1 : Int32)) / (2 : Int32))))) := rfl
                  refine J_if_eq (tgt := 1120) X dL_isLit_1053 (by decide) (fun c1053 => ?_) (fun c1053 => ?_)
                  · skip
                    rw [if_pos c1053] at j1053_0
                    exact K1053_1120 _ (by rw [j1053_0]; exact hL)
                  · skip
                    rw [if_neg c1053] at j1053_0
                    refine J_aload_4 X dL_isLit_1056 ?_
                    refine J_bipush (v := (6 : Int32)) X dL_isLit_1058 (by decide) ?_
                    refine J_iload_10 X dL_isLit_1060 ?_
                    refine J_imul X dL_isLit_1062 ?_
                    refine J_iconst (v := 2) X dL_isLit_1063 rfl ?_
                    refine J_iadd X dL_isLit_1064 ?_
                    refine J_aload_4 X dL_isLit_1065 ?_
                    refine J_bipush (v := (6 : Int32)) X dL_isLit_1067 (by decide) ?_
                    refine J_iload_10 X dL_isLit_1069 ?_
                    refine J_imul X dL_isLit_1071 ?_
                    refine J_iconst (v := 2) X dL_isLit_1072 rfl ?_
                    refine J_iadd X dL_isLit_1073 ?_
                    refine JL_ld X hL.la 3 (by decide) (vp_up (vr_add (vr_mul (vp_in_nI (n := 6) (N := 7) (by decide) (by decide)) (L4_is (ξ := ξ) (two := two) hI h1 (L4_pis c1053)).2 (by decide)) (vp_in_nI (n := 2) (N := 3) (by decide) (by decide)) (by decide)) (by decide)) dL_isLit_1074 ?_
                    refine J_iconst (v := 4) X dL_isLit_1075 rfl ?_
                    refine J_irem X dL_isLit_1076 (by decide) ?_
                    refine J_iconst (v := 4) X dL_isLit_1077 rfl ?_
                    refine J_iload_16 X dL_isLit_1078 ?_
                    refine J_imul X dL_isLit_1080 ?_
                    refine J_iadd X dL_isLit_1081 ?_
                    refine J_bipush (v := (64 : Int32)) X dL_isLit_1082 (by decide) ?_
                    refine J_iload_17 X dL_isLit_1084 ?_
                    refine J_imul X dL_isLit_1086 ?_
                    refine J_iadd X dL_isLit_1087 ?_
                    refine JL_st X hL 3 (by decide) (vp_up (vr_add (vr_mul (vp_in_nI (n := 6) (N := 7) (by decide) (by decide)) (L4_is (ξ := ξ) (two := two) hI h1 (L4_pis c1053)).2 (by decide)) (vp_in_nI (n := 2) (N := 3) (by decide) (by decide)) (by decide)) (by decide)) dL_isLit_1088 (fun h13 hR13 => ?_)
                    refine J_aload_4 X dL_isLit_1089 ?_
                    refine J_bipush (v := (6 : Int32)) X dL_isLit_1091 (by decide) ?_
                    refine J_iload_10 X dL_isLit_1093 ?_
                    refine J_imul X dL_isLit_1095 ?_
                    refine J_iconst (v := 5) X dL_isLit_1096 rfl ?_
                    refine J_iadd X dL_isLit_1097 ?_
                    refine J_aload_6 X dL_isLit_1098 ?_
                    refine J_iconst (v := 0) X dL_isLit_1100 rfl ?_
                    refine JL_lv X hR13.la 7 (by decide) (vp_up (vp_in_nI (n := 0) (N := 1) (by decide) (by decide)) (by decide)) (v := (σ 7 (ix (0 : Int32)))) (by rw [sS_col (by decide)]) dL_isLit_1101 ?_
                    refine J_sipush (v := (8760 : Int32)) X dL_isLit_1102 (by decide) ?_
                    refine J_iadd X dL_isLit_1105 ?_
                    refine JL_st X hR13 3 (by decide) (vp_up (vr_add (vr_mul (vp_in_nI (n := 6) (N := 7) (by decide) (by decide)) (L4_is (ξ := ξ) (two := two) hI h1 (L4_pis c1053)).2 (by decide)) (vp_in_nI (n := 5) (N := 6) (by decide) (by decide)) (by decide)) (by decide)) dL_isLit_1106 (fun h14 hR14 => ?_)
                    refine J_aload_3 X dL_isLit_1107 ?_
                    refine J_iconst (v := 4) X dL_isLit_1108 rfl ?_
                    refine J_iload_15 X dL_isLit_1109 ?_
                    refine J_imul X dL_isLit_1111 ?_
                    refine J_iconst (v := 1) X dL_isLit_1112 rfl ?_
                    refine J_iadd X dL_isLit_1113 ?_
                    refine J_dup2 X dL_isLit_1114 rfl rfl ?_
                    refine JL_lv X hR14.la 2 (by decide) (vp_up (vr_add (vr_mul (vp_in_nI (n := 4) (N := 5) (by decide) (by decide)) (L4_ow (ξ := ξ) (two := two) hI h1) (by decide)) (vp_in_nI (n := 1) (N := 2) (by decide) (by decide)) (by decide)) (by decide)) (v := (σ 2 (ix (((4 : Int32) * (L4_j822 σ ξ one two)) + (1 : Int32))))) (by rw [sS_col (by decide), sS_col (by decide)]) dL_isLit_1115 ?_
                    refine J_iload_23 X dL_isLit_1116 ?_
                    refine J_isub X dL_isLit_1118 ?_
                    refine JL_st X hR14 2 (by decide) (vp_up (vr_add (vr_mul (vp_in_nI (n := 4) (N := 5) (by decide) (by decide)) (L4_ow (ξ := ξ) (two := two) hI h1) (by decide)) (vp_in_nI (n := 1) (N := 2) (by decide) (by decide)) (by decide)) (by decide)) dL_isLit_1119 (fun h15 hR15 => ?_)
                    exact K1053_1120 _ (by rw [j1053_0]; exact hR15)
                have j1001_0 : L4_j1001 σ ξ one two = (if (L4_j940 σ ξ one two) = (0 : Int32) then (0 : Int32) else (if ((two / (20 : Int32)) - (two / (20 : Int32)) / (20 : Int32) * (20 : Int32)) ≤ ((two / (400 : Int32)) - (two / (400 : Int32)) / (12 : Int32) * (12 : Int32)) then (0 : Int32) else (if (((((two / (20 : Int32)) - (two / (20 : Int32)) / (20 : Int32) * (20 : Int32)) + ((two / (400 : Int32)) - (two / (400 : Int32)) / (12 : Int32) * (12 : Int32))) + ((two / (20 : Int32)) - (two / (20 : Int32)) / (20 : Int32) * (20 : Int32))) + ((two / (400 : Int32)) - (two / (400 : Int32)) / (12 : Int32) * (12 : Int32))) < (σ 2 (ix ((4 : Int32) * (L4_j822 σ ξ one two)))) then (0 : Int32) else (if (σ 2 (ix (((4 : Int32) * (L4_j822 σ ξ one two)) + (1 : Int32)))) < (((((2 : Int32) * ((((L4_j772 σ ξ one two) - (1 : Int32)) + (two - two / (5 : Int32) * (5 : Int32))) - (L4_j772 σ ξ one two))) + ((3 : Int32) * ((((L4_j798 σ ξ one two) - (1 : Int32)) + ((two / (5 : Int32)) - (two / (5 : Int32)) / (4 : Int32) * (4 : Int32))) - (L4_j798 σ ξ one two)))) + (1 : Int32)) / (2 : Int32)) then (0 : Int32) else (1 : Int32))))) := rfl
                refine J_if_eq (tgt := 1048) X dL_isLit_1001 (by decide) (fun c1001 => ?_) (fun c1001 => ?_)
                · skip
                  rw [if_pos c1001] at j1001_0
                  refine J_iconst (v := 0) X dL_isLit_1048 rfl ?_
                  exact K1001_1049 _ j1001_0.symm
                · skip
                  rw [if_neg c1001] at j1001_0
                  refine J_iload_18 X dL_isLit_1004 ?_
                  refine J_iload_19 X dL_isLit_1006 ?_
                  refine J_icmp_le (tgt := 1048) X dL_isLit_1008 (by decide) (fun c1008 => ?_) (fun c1008 => ?_)
                  · skip
                    rw [if_pos c1008] at j1001_0
                    refine J_iconst (v := 0) X dL_isLit_1048 rfl ?_
                    exact K1001_1049 _ j1001_0.symm
                  · skip
                    rw [if_neg c1008] at j1001_0
                    refine J_iload_18 X dL_isLit_1011 ?_
                    refine J_iload_19 X dL_isLit_1013 ?_
                    refine J_iadd X dL_isLit_1015 ?_
                    refine J_iload_18 X dL_isLit_1016 ?_
                    refine J_iadd X dL_isLit_1018 ?_
                    refine J_iload_19 X dL_isLit_1019 ?_
                    refine J_iadd X dL_isLit_1021 ?_
                    refine J_aload_3 X dL_isLit_1022 ?_
                    refine J_iconst (v := 4) X dL_isLit_1023 rfl ?_
                    refine J_iload_15 X dL_isLit_1024 ?_
                    refine J_imul X dL_isLit_1026 ?_
                    refine JL_ld X hL.la 2 (by decide) (vp_up (vr_mul (vp_in_nI (n := 4) (N := 5) (by decide) (by decide)) (L4_ow (ξ := ξ) (two := two) hI h1) (by decide)) (by decide)) dL_isLit_1027 ?_
                    refine J_icmp_lt (tgt := 1048) X dL_isLit_1028 (by decide) (fun c1028 => ?_) (fun c1028 => ?_)
                    · skip
                      rw [if_pos c1028] at j1001_0
                      refine J_iconst (v := 0) X dL_isLit_1048 rfl ?_
                      exact K1001_1049 _ j1001_0.symm
                    · skip
                      rw [if_neg c1028] at j1001_0
                      refine J_aload_3 X dL_isLit_1031 ?_
                      refine J_iconst (v := 4) X dL_isLit_1032 rfl ?_
                      refine J_iload_15 X dL_isLit_1033 ?_
                      refine J_imul X dL_isLit_1035 ?_
                      refine J_iconst (v := 1) X dL_isLit_1036 rfl ?_
                      refine J_iadd X dL_isLit_1037 ?_
                      refine JL_ld X hL.la 2 (by decide) (vp_up (vr_add (vr_mul (vp_in_nI (n := 4) (N := 5) (by decide) (by decide)) (L4_ow (ξ := ξ) (two := two) hI h1) (by decide)) (vp_in_nI (n := 1) (N := 2) (by decide) (by decide)) (by decide)) (by decide)) dL_isLit_1038 ?_
                      refine J_iload_23 X dL_isLit_1039 ?_
                      refine J_icmp_lt (tgt := 1048) X dL_isLit_1041 (by decide) (fun c1041 => ?_) (fun c1041 => ?_)
                      · skip
                        rw [if_pos c1041] at j1001_0
                        refine J_iconst (v := 0) X dL_isLit_1048 rfl ?_
                        exact K1001_1049 _ j1001_0.symm
                      · skip
                        rw [if_neg c1041] at j1001_0
                        refine J_iconst (v := 1) X dL_isLit_1044 rfl ?_
                        refine J_goto (tgt := 1049) X dL_isLit_1045 (by decide) ?_
                        exact K1001_1049 _ j1001_0.symm
              have j940_0 : L4_j940 σ ξ one two = (if (L4_j331 σ ξ one two) = (0 : Int32) then (0 : Int32) else (if (L4_j893 σ ξ one two) = (0 : Int32) then (0 : Int32) else (if (L4_j343 σ ξ one two) = (0 : Int32) then (if (L4_j772 σ ξ one two) < (((L4_j772 σ ξ one two) - (1 : Int32)) + (two - two / (5 : Int32) * (5 : Int32))) then (1 : Int32) else (if (((L4_j798 σ ξ one two) - (1 : Int32)) + ((two / (5 : Int32)) - (two / (5 : Int32)) / (4 : Int32) * (4 : Int32))) ≤ (L4_j798 σ ξ one two) then (0 : Int32) else (1 : Int32))) else (0 : Int32)))) := rfl
              refine J_if_eq (tgt := 971) X dL_isLit_940 (by decide) (fun c940 => ?_) (fun c940 => ?_)
              · skip
                rw [if_pos c940] at j940_0
                refine J_iconst (v := 0) X dL_isLit_971 rfl ?_
                exact K940_972 _ j940_0.symm
              · skip
                rw [if_neg c940] at j940_0
                refine J_iload_20 X dL_isLit_943 ?_
                refine J_if_eq (tgt := 971) X dL_isLit_945 (by decide) (fun c945 => ?_) (fun c945 => ?_)
                · skip
                  rw [if_pos c945] at j940_0
                  refine J_iconst (v := 0) X dL_isLit_971 rfl ?_
                  exact K940_972 _ j940_0.symm
                · skip
                  rw [if_neg c945] at j940_0
                  refine J_iload_12 X dL_isLit_948 ?_
                  refine J_if_ne (tgt := 971) X dL_isLit_950 (by decide) (fun c950 => ?_) (fun c950 => ?_)
                  · skip
                    rw [if_neg c950] at j940_0
                    refine J_iconst (v := 0) X dL_isLit_971 rfl ?_
                    exact K940_972 _ j940_0.symm
                  · skip
                    rw [if_pos c950] at j940_0
                    refine J_iload_16 X dL_isLit_953 ?_
                    refine J_iload_13 X dL_isLit_955 ?_
                    refine J_icmp_gt (tgt := 967) X dL_isLit_957 (by decide) (fun c957 => ?_) (fun c957 => ?_)
                    · skip
                      rw [if_pos c957] at j940_0
                      refine J_iconst (v := 1) X dL_isLit_967 rfl ?_
                      refine J_goto (tgt := 972) X dL_isLit_968 (by decide) ?_
                      exact K940_972 _ j940_0.symm
                    · skip
                      rw [if_neg c957] at j940_0
                      refine J_iload_17 X dL_isLit_960 ?_
                      refine J_iload_14 X dL_isLit_962 ?_
                      refine J_icmp_le (tgt := 971) X dL_isLit_964 (by decide) (fun c964 => ?_) (fun c964 => ?_)
                      · skip
                        rw [if_pos c964] at j940_0
                        refine J_iconst (v := 0) X dL_isLit_971 rfl ?_
                        exact K940_972 _ j940_0.symm
                      · skip
                        rw [if_neg c964] at j940_0
                        refine J_iconst (v := 1) X dL_isLit_967 rfl ?_
                        refine J_goto (tgt := 972) X dL_isLit_968 (by decide) ?_
                        exact K940_972 _ j940_0.symm
            have j893_0 : L4_j893 σ ξ one two = (if (((L4_j772 σ ξ one two) - (1 : Int32)) + (two - two / (5 : Int32) * (5 : Int32))) < (L4_j772 σ ξ one two) then (0 : Int32) else (if (11 : Int32) ≤ (((L4_j772 σ ξ one two) - (1 : Int32)) + (two - two / (5 : Int32) * (5 : Int32))) then (0 : Int32) else (if (((L4_j798 σ ξ one two) - (1 : Int32)) + ((two / (5 : Int32)) - (two / (5 : Int32)) / (4 : Int32) * (4 : Int32))) < (L4_j798 σ ξ one two) then (0 : Int32) else (if (11 : Int32) ≤ (((L4_j798 σ ξ one two) - (1 : Int32)) + ((two / (5 : Int32)) - (two / (5 : Int32)) / (4 : Int32) * (4 : Int32))) then (0 : Int32) else (if (σ 2 (ix ((4 : Int32) * (L4_j822 σ ξ one two)))) < (((two / (20 : Int32)) - (two / (20 : Int32)) / (20 : Int32) * (20 : Int32)) + ((two / (400 : Int32)) - (two / (400 : Int32)) / (12 : Int32) * (12 : Int32))) then (0 : Int32) else (1 : Int32)))))) := rfl
            refine J_icmp_lt (tgt := 935) X dL_isLit_893 (by decide) (fun c893 => ?_) (fun c893 => ?_)
            · skip
              rw [if_pos c893] at j893_0
              refine J_iconst (v := 0) X dL_isLit_935 rfl ?_
              exact K893_936 _ j893_0.symm
            · skip
              rw [if_neg c893] at j893_0
              refine J_iload_16 X dL_isLit_896 ?_
              refine J_bipush (v := (11 : Int32)) X dL_isLit_898 (by decide) ?_
              refine J_icmp_ge (tgt := 935) X dL_isLit_900 (by decide) (fun c900 => ?_) (fun c900 => ?_)
              · skip
                rw [if_pos c900] at j893_0
                refine J_iconst (v := 0) X dL_isLit_935 rfl ?_
                exact K893_936 _ j893_0.symm
              · skip
                rw [if_neg c900] at j893_0
                refine J_iload_17 X dL_isLit_903 ?_
                refine J_iload_14 X dL_isLit_905 ?_
                refine J_icmp_lt (tgt := 935) X dL_isLit_907 (by decide) (fun c907 => ?_) (fun c907 => ?_)
                · skip
                  rw [if_pos c907] at j893_0
                  refine J_iconst (v := 0) X dL_isLit_935 rfl ?_
                  exact K893_936 _ j893_0.symm
                · skip
                  rw [if_neg c907] at j893_0
                  refine J_iload_17 X dL_isLit_910 ?_
                  refine J_bipush (v := (11 : Int32)) X dL_isLit_912 (by decide) ?_
                  refine J_icmp_ge (tgt := 935) X dL_isLit_914 (by decide) (fun c914 => ?_) (fun c914 => ?_)
                  · skip
                    rw [if_pos c914] at j893_0
                    refine J_iconst (v := 0) X dL_isLit_935 rfl ?_
                    exact K893_936 _ j893_0.symm
                  · skip
                    rw [if_neg c914] at j893_0
                    refine J_iload_18 X dL_isLit_917 ?_
                    refine J_iload_19 X dL_isLit_919 ?_
                    refine J_iadd X dL_isLit_921 ?_
                    refine J_aload_3 X dL_isLit_922 ?_
                    refine J_iconst (v := 4) X dL_isLit_923 rfl ?_
                    refine J_iload_15 X dL_isLit_924 ?_
                    refine J_imul X dL_isLit_926 ?_
                    refine JL_ld X hL.la 2 (by decide) (vp_up (vr_mul (vp_in_nI (n := 4) (N := 5) (by decide) (by decide)) (L4_ow (ξ := ξ) (two := two) hI h1) (by decide)) (by decide)) dL_isLit_927 ?_
                    refine J_icmp_gt (tgt := 935) X dL_isLit_928 (by decide) (fun c928 => ?_) (fun c928 => ?_)
                    · skip
                      rw [if_pos c928] at j893_0
                      refine J_iconst (v := 0) X dL_isLit_935 rfl ?_
                      exact K893_936 _ j893_0.symm
                    · skip
                      rw [if_neg c928] at j893_0
                      refine J_iconst (v := 1) X dL_isLit_931 rfl ?_
                      refine J_goto (tgt := 936) X dL_isLit_932 (by decide) ?_
                      exact K893_936 _ j893_0.symm
          have j822_0 : L4_j822 σ ξ one two = (if (L4_j331 σ ξ one two) = (0 : Int32) then (0 : Int32) else (((σ 3 (ix ((6 : Int32) * (one - one / ((σ 7 (ix (3 : Int32))) + (1 : Int32)) * ((σ 7 (ix (3 : Int32))) + (1 : Int32)))))) / (64 : Int32)) - ((σ 3 (ix ((6 : Int32) * (one - one / ((σ 7 (ix (3 : Int32))) + (1 : Int32)) * ((σ 7 (ix (3 : Int32))) + (1 : Int32)))))) / (64 : Int32)) / (2 : Int32) * (2 : Int32))) := rfl
          refine J_if_eq (tgt := 841) X dL_isLit_822 (by decide) (fun c822 => ?_) (fun c822 => ?_)
          · skip
            rw [if_pos c822] at j822_0
            refine J_iconst (v := 0) X dL_isLit_841 rfl ?_
            exact K822_842 _ j822_0.symm
          · skip
            rw [if_neg c822] at j822_0
            refine J_aload_4 X dL_isLit_825 ?_
            refine J_bipush (v := (6 : Int32)) X dL_isLit_827 (by decide) ?_
            refine J_iload_10 X dL_isLit_829 ?_
            refine J_imul X dL_isLit_831 ?_
            refine JL_ld X hL.la 3 (by decide) (vp_up (vr_mul (vp_in_nI (n := 6) (N := 7) (by decide) (by decide)) (L4_is (ξ := ξ) (two := two) hI h1 c822).2 (by decide)) (by decide)) dL_isLit_832 ?_
            refine J_bipush (v := (64 : Int32)) X dL_isLit_833 (by decide) ?_
            refine J_idiv X dL_isLit_835 (by decide) ?_
            refine J_iconst (v := 2) X dL_isLit_836 rfl ?_
            refine J_irem X dL_isLit_837 (by decide) ?_
            refine J_goto (tgt := 842) X dL_isLit_838 (by decide) ?_
            exact K822_842 _ j822_0.symm
        have j798_0 : L4_j798 σ ξ one two = (if (L4_j331 σ ξ one two) = (0 : Int32) then (0 : Int32) else ((σ 3 (ix (((6 : Int32) * (one - one / ((σ 7 (ix (3 : Int32))) + (1 : Int32)) * ((σ 7 (ix (3 : Int32))) + (1 : Int32)))) + (2 : Int32)))) / (64 : Int32))) := rfl
        refine J_if_eq (tgt := 817) X dL_isLit_798 (by decide) (fun c798 => ?_) (fun c798 => ?_)
        · skip
          rw [if_pos c798] at j798_0
          refine J_iconst (v := 0) X dL_isLit_817 rfl ?_
          exact K798_818 _ j798_0.symm
        · skip
          rw [if_neg c798] at j798_0
          refine J_aload_4 X dL_isLit_801 ?_
          refine J_bipush (v := (6 : Int32)) X dL_isLit_803 (by decide) ?_
          refine J_iload_10 X dL_isLit_805 ?_
          refine J_imul X dL_isLit_807 ?_
          refine J_iconst (v := 2) X dL_isLit_808 rfl ?_
          refine J_iadd X dL_isLit_809 ?_
          refine JL_ld X hL.la 3 (by decide) (vp_up (vr_add (vr_mul (vp_in_nI (n := 6) (N := 7) (by decide) (by decide)) (L4_is (ξ := ξ) (two := two) hI h1 c798).2 (by decide)) (vp_in_nI (n := 2) (N := 3) (by decide) (by decide)) (by decide)) (by decide)) dL_isLit_810 ?_
          refine J_bipush (v := (64 : Int32)) X dL_isLit_811 (by decide) ?_
          refine J_idiv X dL_isLit_813 (by decide) ?_
          refine J_goto (tgt := 818) X dL_isLit_814 (by decide) ?_
          exact K798_818 _ j798_0.symm
      have j772_0 : L4_j772 σ ξ one two = (if (L4_j331 σ ξ one two) = (0 : Int32) then (0 : Int32) else (((σ 3 (ix (((6 : Int32) * (one - one / ((σ 7 (ix (3 : Int32))) + (1 : Int32)) * ((σ 7 (ix (3 : Int32))) + (1 : Int32)))) + (2 : Int32)))) / (4 : Int32)) - ((σ 3 (ix (((6 : Int32) * (one - one / ((σ 7 (ix (3 : Int32))) + (1 : Int32)) * ((σ 7 (ix (3 : Int32))) + (1 : Int32)))) + (2 : Int32)))) / (4 : Int32)) / (16 : Int32) * (16 : Int32))) := rfl
      refine J_if_eq (tgt := 793) X dL_isLit_772 (by decide) (fun c772 => ?_) (fun c772 => ?_)
      · skip
        rw [if_pos c772] at j772_0
        refine J_iconst (v := 0) X dL_isLit_793 rfl ?_
        exact K772_794 _ j772_0.symm
      · skip
        rw [if_neg c772] at j772_0
        refine J_aload_4 X dL_isLit_775 ?_
        refine J_bipush (v := (6 : Int32)) X dL_isLit_777 (by decide) ?_
        refine J_iload_10 X dL_isLit_779 ?_
        refine J_imul X dL_isLit_781 ?_
        refine J_iconst (v := 2) X dL_isLit_782 rfl ?_
        refine J_iadd X dL_isLit_783 ?_
        refine JL_ld X hL.la 3 (by decide) (vp_up (vr_add (vr_mul (vp_in_nI (n := 6) (N := 7) (by decide) (by decide)) (L4_is (ξ := ξ) (two := two) hI h1 c772).2 (by decide)) (vp_in_nI (n := 2) (N := 3) (by decide) (by decide)) (by decide)) (by decide)) dL_isLit_784 ?_
        refine J_iconst (v := 4) X dL_isLit_785 rfl ?_
        refine J_idiv X dL_isLit_786 (by decide) ?_
        refine J_bipush (v := (16 : Int32)) X dL_isLit_787 (by decide) ?_
        refine J_irem X dL_isLit_789 (by decide) ?_
        refine J_goto (tgt := 794) X dL_isLit_790 (by decide) ?_
        exact K772_794 _ j772_0.symm
    have j343_0 : L4_j343 σ ξ one two = (if (L4_j331 σ ξ one two) = (0 : Int32) then (0 : Int32) else (if (σ 3 (ix (((6 : Int32) * (one - one / ((σ 7 (ix (3 : Int32))) + (1 : Int32)) * ((σ 7 (ix (3 : Int32))) + (1 : Int32)))) + (5 : Int32)))) ≤ (σ 7 (ix (0 : Int32))) then (0 : Int32) else (1 : Int32))) := rfl
    refine J_if_eq (tgt := 367) X dL_isLit_343 (by decide) (fun c343 => ?_) (fun c343 => ?_)
    · skip
      rw [if_pos c343] at j343_0
      refine J_iconst (v := 0) X dL_isLit_367 rfl ?_
      exact K343_368 _ j343_0.symm
    · skip
      rw [if_neg c343] at j343_0
      refine J_aload_4 X dL_isLit_346 ?_
      refine J_bipush (v := (6 : Int32)) X dL_isLit_348 (by decide) ?_
      refine J_iload_10 X dL_isLit_350 ?_
      refine J_imul X dL_isLit_352 ?_
      refine J_iconst (v := 5) X dL_isLit_353 rfl ?_
      refine J_iadd X dL_isLit_354 ?_
      refine JL_ld X hL.la 3 (by decide) (vp_up (vr_add (vr_mul (vp_in_nI (n := 6) (N := 7) (by decide) (by decide)) (L4_is (ξ := ξ) (two := two) hI h1 c343).2 (by decide)) (vp_in_nI (n := 5) (N := 6) (by decide) (by decide)) (by decide)) (by decide)) dL_isLit_355 ?_
      refine J_aload_6 X dL_isLit_356 ?_
      refine J_iconst (v := 0) X dL_isLit_358 rfl ?_
      refine JL_ld X hL.la 7 (by decide) (vp_up (vp_in_nI (n := 0) (N := 1) (by decide) (by decide)) (by decide)) dL_isLit_359 ?_
      refine J_icmp_le (tgt := 367) X dL_isLit_360 (by decide) (fun c360 => ?_) (fun c360 => ?_)
      · skip
        rw [if_pos c360] at j343_0
        refine J_iconst (v := 0) X dL_isLit_367 rfl ?_
        exact K343_368 _ j343_0.symm
      · skip
        rw [if_neg c360] at j343_0
        refine J_iconst (v := 1) X dL_isLit_363 rfl ?_
        refine J_goto (tgt := 368) X dL_isLit_364 (by decide) ?_
        exact K343_368 _ j343_0.symm
  have j331_0 : L4_j331 σ ξ one two = (if (σ 7 (ix (3 : Int32))) ≤ (one - one / ((σ 7 (ix (3 : Int32))) + (1 : Int32)) * ((σ 7 (ix (3 : Int32))) + (1 : Int32))) then (0 : Int32) else (1 : Int32)) := rfl
  refine J_icmp_ge (tgt := 338) X dL_isLit_331 (by decide) (fun c331 => ?_) (fun c331 => ?_)
  · skip
    rw [if_pos c331] at j331_0
    refine J_iconst (v := 0) X dL_isLit_338 rfl ?_
    exact K331_339 _ j331_0.symm
  · skip
    rw [if_neg c331] at j331_0
    refine J_iconst (v := 1) X dL_isLit_334 rfl ?_
    refine J_goto (tgt := 339) X dL_isLit_335 (by decide) ?_
    exact K331_339 _ j331_0.symm
def L5_j331 (σ : St) (ξ : St) (one : Int32) (two : Int32) : Int32 := (if (σ 7 (ix (3 : Int32))) ≤ (one - one / ((σ 7 (ix (3 : Int32))) + (1 : Int32)) * ((σ 7 (ix (3 : Int32))) + (1 : Int32))) then (0 : Int32) else (1 : Int32))
theorem L5_j331_b (σ : St) (ξ : St) (one : Int32) (two : Int32) : L5_j331 σ ξ one two = 0 ∨ L5_j331 σ ξ one two = 1 := by
  unfold L5_j331
  (repeat' split) <;> first | exact Or.inl (by with_reducible rfl) | exact Or.inr (by with_reducible rfl)
def L5_j343 (σ : St) (ξ : St) (one : Int32) (two : Int32) : Int32 := (if (L5_j331 σ ξ one two) = (0 : Int32) then (0 : Int32) else (if (σ 3 (ix (((6 : Int32) * (one - one / ((σ 7 (ix (3 : Int32))) + (1 : Int32)) * ((σ 7 (ix (3 : Int32))) + (1 : Int32)))) + (5 : Int32)))) ≤ (σ 7 (ix (0 : Int32))) then (0 : Int32) else (1 : Int32)))
theorem L5_j343_b (σ : St) (ξ : St) (one : Int32) (two : Int32) : L5_j343 σ ξ one two = 0 ∨ L5_j343 σ ξ one two = 1 := by
  unfold L5_j343
  (repeat' split) <;> first | exact Or.inl (by with_reducible rfl) | exact Or.inr (by with_reducible rfl)
def L5_j1230l14 (σ : St) (ξ : St) (one : Int32) (two : Int32) (k1198 : Nat) (a1198_14 : Int32) (s1198 : St) : Int32 := (if ((s1198 0 (ix ((s1198 3 (ix ((6 : Int32) * (nI k1198)))) - (s1198 3 (ix ((6 : Int32) * (nI k1198)))) / (64 : Int32) * (64 : Int32)))) - (s1198 0 (ix ((s1198 3 (ix ((6 : Int32) * (nI k1198)))) - (s1198 3 (ix ((6 : Int32) * (nI k1198)))) / (64 : Int32) * (64 : Int32)))) / (4 : Int32) * (4 : Int32)) = (one - one / (5 : Int32) * (5 : Int32)) then (if (L_isUnlawful s1198 (nI k1198)) = (0 : Int32) then a1198_14 else (if ((s1198 7 (ix (0 : Int32))) - (s1198 4 (ix (nI k1198)))) ≤ (719 : Int32) then a1198_14 else (a1198_14 + 1))) else a1198_14)
def L5_j1230_s (σ : St) (ξ : St) (one : Int32) (two : Int32) (k1198 : Nat) (a1198_14 : Int32) (s1198 : St) : St := (if ((s1198 0 (ix ((s1198 3 (ix ((6 : Int32) * (nI k1198)))) - (s1198 3 (ix ((6 : Int32) * (nI k1198)))) / (64 : Int32) * (64 : Int32)))) - (s1198 0 (ix ((s1198 3 (ix ((6 : Int32) * (nI k1198)))) - (s1198 3 (ix ((6 : Int32) * (nI k1198)))) / (64 : Int32) * (64 : Int32)))) / (4 : Int32) * (4 : Int32)) = (one - one / (5 : Int32) * (5 : Int32)) then (if (L_isUnlawful s1198 (nI k1198)) = (0 : Int32) then s1198 else (if ((s1198 7 (ix (0 : Int32))) - (s1198 4 (ix (nI k1198)))) ≤ (719 : Int32) then s1198 else (sS (sS (sS s1198 4 (ix (nI k1198)) (s1198 7 (ix (0 : Int32)))) 2 (ix (((4 : Int32) * (((s1198 3 (ix ((6 : Int32) * (nI k1198)))) / (64 : Int32)) - ((s1198 3 (ix ((6 : Int32) * (nI k1198)))) / (64 : Int32)) / (2 : Int32) * (2 : Int32))) + (1 : Int32))) ((s1198 2 (ix (((4 : Int32) * (((s1198 3 (ix ((6 : Int32) * (nI k1198)))) / (64 : Int32)) - ((s1198 3 (ix ((6 : Int32) * (nI k1198)))) / (64 : Int32)) / (2 : Int32) * (2 : Int32))) + (1 : Int32)))) - (10 : Int32))) 2 (ix (((4 : Int32) * (((s1198 3 (ix ((6 : Int32) * (nI k1198)))) / (64 : Int32)) - ((s1198 3 (ix ((6 : Int32) * (nI k1198)))) / (64 : Int32)) / (2 : Int32) * (2 : Int32))) + (2 : Int32))) (((sS (sS s1198 4 (ix (nI k1198)) (s1198 7 (ix (0 : Int32)))) 2 (ix (((4 : Int32) * (((s1198 3 (ix ((6 : Int32) * (nI k1198)))) / (64 : Int32)) - ((s1198 3 (ix ((6 : Int32) * (nI k1198)))) / (64 : Int32)) / (2 : Int32) * (2 : Int32))) + (1 : Int32))) ((s1198 2 (ix (((4 : Int32) * (((s1198 3 (ix ((6 : Int32) * (nI k1198)))) / (64 : Int32)) - ((s1198 3 (ix ((6 : Int32) * (nI k1198)))) / (64 : Int32)) / (2 : Int32) * (2 : Int32))) + (1 : Int32)))) - (10 : Int32))) 2 (ix (((4 : Int32) * (((s1198 3 (ix ((6 : Int32) * (nI k1198)))) / (64 : Int32)) - ((s1198 3 (ix ((6 : Int32) * (nI k1198)))) / (64 : Int32)) / (2 : Int32) * (2 : Int32))) + (2 : Int32)))) + (10 : Int32))))) else s1198)
def L5_L1198 (σ : St) (ξ : St) (one : Int32) (two : Int32) (K1198 : Int32 → St → Int32) : Nat → Nat → Int32 → St → Int32
  | 0, _, a1198_14, s1198 => K1198 a1198_14 s1198
  | n1198 + 1, k1198, a1198_14, s1198 => (if (4 : Int32) ≤ (one - one / (5 : Int32) * (5 : Int32)) then (K1198 a1198_14 s1198) else (L5_L1198 σ ξ one two K1198 n1198 (k1198 + 1) (L5_j1230l14 σ ξ one two k1198 a1198_14 s1198) (L5_j1230_s σ ξ one two k1198 a1198_14 s1198)))
def L5_L1198_s (σ : St) (ξ : St) (one : Int32) (two : Int32) (K1198s : Int32 → St → St) : Nat → Nat → Int32 → St → St
  | 0, _, a1198_14, s1198 => K1198s a1198_14 s1198
  | n1198 + 1, k1198, a1198_14, s1198 => (if (4 : Int32) ≤ (one - one / (5 : Int32) * (5 : Int32)) then (K1198s a1198_14 s1198) else (L5_L1198_s σ ξ one two K1198s n1198 (k1198 + 1) (L5_j1230l14 σ ξ one two k1198 a1198_14 s1198) (L5_j1230_s σ ξ one two k1198 a1198_14 s1198)))
def L5_L1198_x (σ : St) (ξ : St) (one : Int32) (two : Int32) (K1198x : Int32 → St → St) : Nat → Nat → Int32 → St → St
  | 0, _, a1198_14, s1198 => K1198x a1198_14 s1198
  | n1198 + 1, k1198, a1198_14, s1198 => (if (4 : Int32) ≤ (one - one / (5 : Int32) * (5 : Int32)) then (K1198x a1198_14 s1198) else (L5_L1198_x σ ξ one two K1198x n1198 (k1198 + 1) (L5_j1230l14 σ ξ one two k1198 a1198_14 s1198) (L5_j1230_s σ ξ one two k1198 a1198_14 s1198)))
def L5_j1342 (σ : St) (ξ : St) (one : Int32) (two : Int32) (a1198_14 : Int32) (s1198 : St) : Int32 := (if (one - one / (5 : Int32) * (5 : Int32)) = (4 : Int32) then (-3000000 : Int32) else a1198_14)
def L5_j1352 (σ : St) (ξ : St) (one : Int32) (two : Int32) (a1198_14 : Int32) (s1198 : St) : Int32 := (if (DV_10 ξ (one - one / (5 : Int32) * (5 : Int32))) = (L5_j1342 σ ξ one two a1198_14 s1198) then (1 : Int32) else (0 : Int32))
theorem L5_j1352_b (σ : St) (ξ : St) (one : Int32) (two : Int32) (a1198_14 : Int32) (s1198 : St) : L5_j1352 σ ξ one two a1198_14 s1198 = 0 ∨ L5_j1352 σ ξ one two a1198_14 s1198 = 1 := by
  unfold L5_j1352
  (repeat' split) <;> first | exact Or.inl (by with_reducible rfl) | exact Or.inr (by with_reducible rfl)
def L5 (σ : St) (ξ : St) (one : Int32) (two : Int32) : Int32 := (L5_L1198 σ ξ one two (fun a1198_14 s1198 => (L5_j1352 σ ξ one two a1198_14 s1198)) (ix (σ 7 (ix (3 : Int32)))) 0 (0 : Int32) σ)
def L5_s (σ : St) (ξ : St) (one : Int32) (two : Int32) : St := (L5_L1198_s σ ξ one two (fun a1198_14 s1198 => s1198) (ix (σ 7 (ix (3 : Int32)))) 0 (0 : Int32) σ)
def L5_x (σ : St) (ξ : St) (one : Int32) (two : Int32) : St := (L5_L1198_x σ ξ one two (fun a1198_14 s1198 => (M_inspect_s ξ (one - one / (5 : Int32) * (5 : Int32)))) (ix (σ 7 (ix (3 : Int32)))) 0 (0 : Int32) σ)
theorem L5_is {σ ξ : St} {one two : Int32} (hI : IL σ) (h1 : vp_in one 60000) (c : ¬ L5_j331 σ ξ one two = 0) : vp_in (one - one / ((σ 7 (ix (3 : Int32))) + (1 : Int32)) * ((σ 7 (ix (3 : Int32))) + (1 : Int32))) (ix (σ 7 (ix (3 : Int32)))) ∧ vp_in (one - one / ((σ 7 (ix (3 : Int32))) + (1 : Int32)) * ((σ 7 (ix (3 : Int32))) + (1 : Int32))) 10 := by
  unfold L5_j331 at c
  split at c
  · exact absurd rfl c
  · have h := below (remv h1 (by decide) (IL_7_3 hI) (by decide)) (by decide) (IL_7_3 hI) (by decide) (by assumption)
    exact ⟨h, vp_up h (cnt (N := 10) (IL_7_3 hI) (by decide)).2⟩
set_option maxRecDepth 100000 in
set_option maxHeartbeats 4000000 in
theorem c_L5 {l : Launch} {D : va_G} {ca : Nat → Nat} {h hx : fH} {r : Nat} {α : Nat → Nat} {σ ξ : St} (hL : LH ca hx h α σ) (hX : RA ca hx r ξ) (hIX : InvX ξ) (hIO : InvO ξ) (hQ : LQ ξ σ) (one : Int32) (two : Int32) (h1 : vp_in one 60000) (h2 : vp_in two 60000) : FM l D ca yL_isLit (.code yL_isLit cL_isLit 25 (some .boolean)) { frames := 10, cells := 1, slots := 6, locals := 199 } [.ref r, .ref (α 0), .ref (α 1), .ref (α 2), .ref (α 3), .ref (α 4), .ref (α 7), .int (5 : Int32), .int one, .int two] h (fun v h2 => v = some (.int (L5 σ ξ one two)) ∧ ∃ hx2, LH ca hx2 h2 α (L5_s σ ξ one two) ∧ RA ca hx2 r (L5_x σ ξ one two)) noX := by
  refine FM.of [some (.ref r), some (.ref (α 0)), some (.ref (α 1)), some (.ref (α 2)), some (.ref (α 3)), some (.ref (α 4)), some (.ref (α 7)), some (.int (5 : Int32)), some (.int one), some (.int two), none, none, none, none, none, none, none, none, none, none, none, none, none, none, none] (by decide) (Nat.le_of_ble_eq_true rfl) rfl ?_
  rintro K X rfl rfl rfl
  have hI := IL_of hQ hIX
  have q_v : (L5 σ ξ one two) = (L5_L1198 σ ξ one two (fun a1198_14 s1198 => (L5_j1352 σ ξ one two a1198_14 s1198)) (ix (σ 7 (ix (3 : Int32)))) 0 (0 : Int32) σ) := rfl
  have q_s : (L5_s σ ξ one two) = (L5_L1198_s σ ξ one two (fun a1198_14 s1198 => s1198) (ix (σ 7 (ix (3 : Int32)))) 0 (0 : Int32) σ) := rfl
  have q_x : (L5_x σ ξ one two) = (L5_L1198_x σ ξ one two (fun a1198_14 s1198 => (M_inspect_s ξ (one - one / (5 : Int32) * (5 : Int32)))) (ix (σ 7 (ix (3 : Int32)))) 0 (0 : Int32) σ) := rfl
  refine J_iload_7 X dL_isLit_0 ?_
  refine J_if_ne (tgt := 314) X dL_isLit_2 (by decide) (fun _ => ?_) (fun c => absurd c (by decide))
  refine J_iload_8 X dL_isLit_314 ?_
  refine J_aload_6 X dL_isLit_316 ?_
  refine J_iconst (v := 3) X dL_isLit_318 rfl ?_
  refine JL_ld X hL.la 7 (by decide) (vp_up (vp_in_nI (n := 3) (N := 4) (by decide) (by decide)) (by decide)) dL_isLit_319 ?_
  refine J_iconst (v := 1) X dL_isLit_320 rfl ?_
  refine J_iadd X dL_isLit_321 ?_
  refine J_irem X dL_isLit_322 (gp1 (IL_7_3 hI) (by decide)) ?_
  refine J_istore_10 X dL_isLit_323 rfl (by decide) ?_
  refine J_iload_10 X dL_isLit_325 ?_
  refine J_aload_6 X dL_isLit_327 ?_
  refine J_iconst (v := 3) X dL_isLit_329 rfl ?_
  refine JL_ld X hL.la 7 (by decide) (vp_up (vp_in_nI (n := 3) (N := 4) (by decide) (by decide)) (by decide)) dL_isLit_330 ?_
  have K331_339 : ∀ (v331_0 : Int32), v331_0 = (L5_j331 σ ξ one two) → J K h [some (.ref r), some (.ref (α 0)), some (.ref (α 1)), some (.ref (α 2)), some (.ref (α 3)), some (.ref (α 4)), some (.ref (α 7)), some (.int (5 : Int32)), some (.int one), some (.int two), some (.int (one - one / ((σ 7 (ix (3 : Int32))) + (1 : Int32)) * ((σ 7 (ix (3 : Int32))) + (1 : Int32)))), none, none, none, none, none, none, none, none, none, none, none, none, none, none] [.int v331_0] 339 0 0 := by
    intro v331_0 ev331_0
    try rw [ev331_0]
    clear ev331_0
    refine J_istore_11 X dL_isLit_339 rfl (by decide) ?_
    refine J_iload_11 X dL_isLit_341 ?_
    have K343_368 : ∀ (v343_0 : Int32), v343_0 = (L5_j343 σ ξ one two) → J K h [some (.ref r), some (.ref (α 0)), some (.ref (α 1)), some (.ref (α 2)), some (.ref (α 3)), some (.ref (α 4)), some (.ref (α 7)), some (.int (5 : Int32)), some (.int one), some (.int two), some (.int (one - one / ((σ 7 (ix (3 : Int32))) + (1 : Int32)) * ((σ 7 (ix (3 : Int32))) + (1 : Int32)))), some (.int (L5_j331 σ ξ one two)), none, none, none, none, none, none, none, none, none, none, none, none, none] [.int v343_0] 368 0 0 := by
      intro v343_0 ev343_0
      try rw [ev343_0]
      clear ev343_0
      refine J_istore_12 X dL_isLit_368 rfl (by decide) ?_
      refine J_iload_7 X dL_isLit_370 ?_
      refine J_iconst (v := 1) X dL_isLit_372 rfl ?_
      refine J_icmp_ne (tgt := 499) X dL_isLit_373 (by decide) (fun _ => ?_) (fun c => absurd c (by decide))
      refine J_iload_7 X dL_isLit_499 ?_
      refine J_iconst (v := 2) X dL_isLit_501 rfl ?_
      refine J_icmp_ne (tgt := 596) X dL_isLit_502 (by decide) (fun _ => ?_) (fun c => absurd c (by decide))
      refine J_iload_7 X dL_isLit_596 ?_
      refine J_iconst (v := 3) X dL_isLit_598 rfl ?_
      refine J_icmp_ne (tgt := 764) X dL_isLit_599 (by decide) (fun _ => ?_) (fun c => absurd c (by decide))
      refine J_iload_7 X dL_isLit_764 ?_
      refine J_iconst (v := 4) X dL_isLit_766 rfl ?_
      refine J_icmp_ne (tgt := 1186) X dL_isLit_767 (by decide) (fun _ => ?_) (fun c => absurd c (by decide))
      refine J_iload_8 X dL_isLit_1186 ?_
      refine J_iconst (v := 5) X dL_isLit_1188 rfl ?_
      refine J_irem X dL_isLit_1189 (by decide) ?_
      refine J_istore_13 X dL_isLit_1190 rfl (by decide) ?_
      refine J_iconst (v := 0) X dL_isLit_1192 rfl ?_
      refine J_istore_14 X dL_isLit_1193 rfl (by decide) ?_
      refine J_iconst (v := 0) X dL_isLit_1195 rfl ?_
      refine J_istore_15 X dL_isLit_1196 rfl (by decide) ?_
      have hle := (cnt (N := 10) (IL_7_3 hI) (by decide)).2
      obtain ⟨K1198, hK1198⟩ : ∃ f : Int32 → St → Int32, f = (fun a1198_14 s1198 => (L5_j1352 σ ξ one two a1198_14 s1198)) := ⟨_, rfl⟩
      obtain ⟨K1198s, hK1198s⟩ : ∃ f : Int32 → St → St, f = (fun a1198_14 s1198 => s1198) := ⟨_, rfl⟩
      obtain ⟨K1198x, hK1198x⟩ : ∃ f : Int32 → St → St, f = (fun a1198_14 s1198 => (M_inspect_s ξ (one - one / (5 : Int32) * (5 : Int32)))) := ⟨_, rfl⟩
      have X1198 : ∀ (a1198_14 : Int32) (s1198 : St) (h1198_ : fH) (_ : True), LH (kca K) hx h1198_ α s1198 → IL s1198 → s1198 7 = σ 7 → (L5 σ ξ one two) = (L5_j1352 σ ξ one two a1198_14 s1198) → (L5_s σ ξ one two) = s1198 → (L5_x σ ξ one two) = (M_inspect_s ξ (one - one / (5 : Int32) * (5 : Int32))) → J K h1198_ [some (.ref r), some (.ref (α 0)), some (.ref (α 1)), some (.ref (α 2)), some (.ref (α 3)), some (.ref (α 4)), some (.ref (α 7)), some (.int (5 : Int32)), some (.int one), some (.int two), some (.int (one - one / ((σ 7 (ix (3 : Int32))) + (1 : Int32)) * ((σ 7 (ix (3 : Int32))) + (1 : Int32)))), some (.int (L5_j331 σ ξ one two)), some (.int (L5_j343 σ ξ one two)), some (.int (one - one / (5 : Int32) * (5 : Int32))), some (.int a1198_14), none, none, none, none, none, none, none, none, none, none] [] 1327 0 0 := by
        intro a1198_14 s1198 h1198_ _ hR1198_ hI1198_ hg1198 q_v q_s q_x
        refine J_aload_0 X dL_isLit_1327 ?_
        refine J_bipush (v := (10 : Int32)) X dL_isLit_1328 (by decide) ?_
        refine J_iload_13 X dL_isLit_1330 ?_
        refine J_iconst (v := 0) X dL_isLit_1332 rfl ?_
        refine J_iconst (v := 0) X dL_isLit_1333 rfl ?_
        refine J_iconst (v := 0) X dL_isLit_1334 rfl ?_
        refine J_iconst (v := 0) X dL_isLit_1335 rfl ?_
        obtain ⟨la, eh, hap, hLA, hα⟩ := hR1198_
        subst eh
        refine J_callSW X ((c_D_10 hX hIX hIO (one - one / (5 : Int32) * (5 : Int32)) (0 : Int32) (0 : Int32) (0 : Int32) (0 : Int32)).frame hap) (And.intro gw_2_177 cw_L_does) rfl rfl (Nat.le_of_ble_eq_true rfl) dL_isLit_1336 rfl (fun v h11 e => ?_) (fun E h11 e => by obtain ⟨_, q, _⟩ := e; exact q.elim)
        obtain ⟨hx11, ⟨e0, hX11⟩, hap11, eh⟩ := e
        subst e0
        subst eh
        have hR11 : LH (kca K) hx11 (un hx11 la) α s1198 := ⟨la, rfl, hap11, hLA, hα⟩
        show J K (un hx11 la) [some (.ref r), some (.ref (α 0)), some (.ref (α 1)), some (.ref (α 2)), some (.ref (α 3)), some (.ref (α 4)), some (.ref (α 7)), some (.int (5 : Int32)), some (.int one), some (.int two), some (.int (one - one / ((σ 7 (ix (3 : Int32))) + (1 : Int32)) * ((σ 7 (ix (3 : Int32))) + (1 : Int32)))), some (.int (L5_j331 σ ξ one two)), some (.int (L5_j343 σ ξ one two)), some (.int (one - one / (5 : Int32) * (5 : Int32))), some (.int a1198_14), none, none, none, none, none, none, none, none, none, none] [.int (DV_10 ξ (one - one / (5 : Int32) * (5 : Int32)))] 1339 1 6
        refine J_iload_13 X dL_isLit_1339 ?_
        refine J_iconst (v := 4) X dL_isLit_1341 rfl ?_
        have K1342_1352 : ∀ (v1342_0 : Int32), v1342_0 = (L5_j1342 σ ξ one two a1198_14 s1198) → J K (un hx11 la) [some (.ref r), some (.ref (α 0)), some (.ref (α 1)), some (.ref (α 2)), some (.ref (α 3)), some (.ref (α 4)), some (.ref (α 7)), some (.int (5 : Int32)), some (.int one), some (.int two), some (.int (one - one / ((σ 7 (ix (3 : Int32))) + (1 : Int32)) * ((σ 7 (ix (3 : Int32))) + (1 : Int32)))), some (.int (L5_j331 σ ξ one two)), some (.int (L5_j343 σ ξ one two)), some (.int (one - one / (5 : Int32) * (5 : Int32))), some (.int a1198_14), none, none, none, none, none, none, none, none, none, none] [.int v1342_0, .int (DV_10 ξ (one - one / (5 : Int32) * (5 : Int32)))] 1352 1 6 := by
          intro v1342_0 ev1342_0
          try rw [ev1342_0]
          clear ev1342_0
          have K1352_1360 : ∀ (v1352_0 : Int32), v1352_0 = (L5_j1352 σ ξ one two a1198_14 s1198) → J K (un hx11 la) [some (.ref r), some (.ref (α 0)), some (.ref (α 1)), some (.ref (α 2)), some (.ref (α 3)), some (.ref (α 4)), some (.ref (α 7)), some (.int (5 : Int32)), some (.int one), some (.int two), some (.int (one - one / ((σ 7 (ix (3 : Int32))) + (1 : Int32)) * ((σ 7 (ix (3 : Int32))) + (1 : Int32)))), some (.int (L5_j331 σ ξ one two)), some (.int (L5_j343 σ ξ one two)), some (.int (one - one / (5 : Int32) * (5 : Int32))), some (.int a1198_14), none, none, none, none, none, none, none, none, none, none] [.int v1352_0] 1360 1 6 := by
            intro v1352_0 ev1352_0
            try rw [ev1352_0]
            clear ev1352_0
            exact J_zret X rfl (L5_j1352_b ..) rfl ⟨by rw [q_v], hx11, by rw [q_s]; exact hR11, by rw [q_x]; exact hX11⟩ dL_isLit_1360
          have j1352_0 : L5_j1352 σ ξ one two a1198_14 s1198 = (if (DV_10 ξ (one - one / (5 : Int32) * (5 : Int32))) = (L5_j1342 σ ξ one two a1198_14 s1198) then (1 : Int32) else (0 : Int32)) := rfl
          refine J_icmp_ne (tgt := 1359) X dL_isLit_1352 (by decide) (fun c1352 => ?_) (fun c1352 => ?_)
          · skip
            rw [if_neg c1352] at j1352_0
            refine J_iconst (v := 0) X dL_isLit_1359 rfl ?_
            exact K1352_1360 _ j1352_0.symm
          · skip
            rw [if_pos c1352] at j1352_0
            refine J_iconst (v := 1) X dL_isLit_1355 rfl ?_
            refine J_goto (tgt := 1360) X dL_isLit_1356 (by decide) ?_
            exact K1352_1360 _ j1352_0.symm
        have j1342_0 : L5_j1342 σ ξ one two a1198_14 s1198 = (if (one - one / (5 : Int32) * (5 : Int32)) = (4 : Int32) then (-3000000 : Int32) else a1198_14) := rfl
        refine J_icmp_ne (tgt := 1350) X dL_isLit_1342 (by decide) (fun c1342 => ?_) (fun c1342 => ?_)
        · skip
          rw [if_neg c1342] at j1342_0
          refine J_iload_14 X dL_isLit_1350 ?_
          exact K1342_1352 _ j1342_0.symm
        · skip
          rw [if_pos c1342] at j1342_0
          refine J_ldc (v := (-3000000 : Int32)) X dL_isLit_1345 gw_4_72 ?_
          refine J_goto (tgt := 1352) X dL_isLit_1347 (by decide) ?_
          exact K1342_1352 _ j1342_0.symm
      have L1198 : ∀ (n1198 k1198 : Nat) (a1198_14 : Int32) (s1198 : St) (h1198_ : fH), k1198 + n1198 = ix (σ 7 (ix (3 : Int32))) → LH (kca K) hx h1198_ α s1198 → IL s1198 → s1198 7 = σ 7 → (L5 σ ξ one two) = (L5_L1198 σ ξ one two K1198 n1198 k1198 a1198_14 s1198) → (L5_s σ ξ one two) = (L5_L1198_s σ ξ one two K1198s n1198 k1198 a1198_14 s1198) → (L5_x σ ξ one two) = (L5_L1198_x σ ξ one two K1198x n1198 k1198 a1198_14 s1198) → J K h1198_ [some (.ref r), some (.ref (α 0)), some (.ref (α 1)), some (.ref (α 2)), some (.ref (α 3)), some (.ref (α 4)), some (.ref (α 7)), some (.int (5 : Int32)), some (.int one), some (.int two), some (.int (one - one / ((σ 7 (ix (3 : Int32))) + (1 : Int32)) * ((σ 7 (ix (3 : Int32))) + (1 : Int32)))), some (.int (L5_j331 σ ξ one two)), some (.int (L5_j343 σ ξ one two)), some (.int (one - one / (5 : Int32) * (5 : Int32))), some (.int a1198_14), some (.int (nI k1198)), none, none, none, none, none, none, none, none, none] [] 1198 0 0 := by
        intro n1198
        induction n1198 with
        | zero =>
          intro k1198 a1198_14 s1198 h1198_ hk1198 hR1198_ hI1198_ hg1198 q_v q_s q_x
          rw [L5_L1198] at q_v
          rw [L5_L1198_s] at q_s
          rw [L5_L1198_x] at q_x
          refine J_iload_15 X dL_isLit_1198 ?_
          refine J_aload_6 X dL_isLit_1200 ?_
          refine J_iconst (v := 3) X dL_isLit_1202 rfl ?_
          refine JL_ld X hR1198_.la 7 (by decide) (vp_up (vp_in_nI (n := 3) (N := 4) (by decide) (by decide)) (by decide)) dL_isLit_1203 ?_
          refine J_icmp_ge (tgt := 1327) X dL_isLit_1204 (by decide) (fun _ => ?_) (fun c => absurd (lp_exit ((congrFun hg1198 _).trans (cnt (N := 10) (IL_7_3 hI) (by decide)).1) (by omega) hk1198) c)
          rw [hK1198] at q_v
          rw [hK1198s] at q_s
          rw [hK1198x] at q_x
          refine J.subL (lv' := [some (.ref r), some (.ref (α 0)), some (.ref (α 1)), some (.ref (α 2)), some (.ref (α 3)), some (.ref (α 4)), some (.ref (α 7)), some (.int (5 : Int32)), some (.int one), some (.int two), some (.int (one - one / ((σ 7 (ix (3 : Int32))) + (1 : Int32)) * ((σ 7 (ix (3 : Int32))) + (1 : Int32)))), some (.int (L5_j331 σ ξ one two)), some (.int (L5_j343 σ ξ one two)), some (.int (one - one / (5 : Int32) * (5 : Int32))), some (.int a1198_14), none, none, none, none, none, none, none, none, none, none]) (And.intro rfl (And.intro rfl (And.intro rfl (And.intro rfl (And.intro rfl (And.intro rfl (And.intro rfl (And.intro rfl (And.intro rfl (And.intro rfl (And.intro rfl (And.intro rfl (And.intro rfl (And.intro rfl (And.intro rfl trivial))))))))))))))) ?_
          exact X1198 a1198_14 s1198 h1198_ trivial hR1198_ hI1198_ hg1198 q_v q_s q_x
        | succ n1198 ih1198 =>
          intro k1198 a1198_14 s1198 h1198_ hk1198 hR1198_ hI1198_ hg1198 q_v q_s q_x
          rw [L5_L1198] at q_v
          rw [L5_L1198_s] at q_s
          rw [L5_L1198_x] at q_x
          have hlt1198 : k1198 < ix (σ 7 (ix (3 : Int32))) := by omega
          refine J_iload_15 X dL_isLit_1198 ?_
          refine J_aload_6 X dL_isLit_1200 ?_
          refine J_iconst (v := 3) X dL_isLit_1202 rfl ?_
          refine JL_ld X hR1198_.la 7 (by decide) (vp_up (vp_in_nI (n := 3) (N := 4) (by decide) (by decide)) (by decide)) dL_isLit_1203 ?_
          refine J_icmp_ge (tgt := 1327) X dL_isLit_1204 (by decide) (fun c => absurd c (lp_stay ((congrFun hg1198 _).trans (cnt (N := 10) (IL_7_3 hI) (by decide)).1) (by omega) hk1198)) (fun _ => ?_)
          refine J_iload_13 X dL_isLit_1207 ?_
          refine J_iconst (v := 4) X dL_isLit_1209 rfl ?_
          refine J_icmp_ge (tgt := 1327) X dL_isLit_1210 (by decide) (fun c1210 => ?_) (fun c1210 => ?_)
          · skip
            rw [if_pos c1210] at q_v
            rw [if_pos c1210] at q_s
            rw [if_pos c1210] at q_x
            refine J.subL (lv' := [some (.ref r), some (.ref (α 0)), some (.ref (α 1)), some (.ref (α 2)), some (.ref (α 3)), some (.ref (α 4)), some (.ref (α 7)), some (.int (5 : Int32)), some (.int one), some (.int two), some (.int (one - one / ((σ 7 (ix (3 : Int32))) + (1 : Int32)) * ((σ 7 (ix (3 : Int32))) + (1 : Int32)))), some (.int (L5_j331 σ ξ one two)), some (.int (L5_j343 σ ξ one two)), some (.int (one - one / (5 : Int32) * (5 : Int32))), some (.int a1198_14), none, none, none, none, none, none, none, none, none, none]) (And.intro rfl (And.intro rfl (And.intro rfl (And.intro rfl (And.intro rfl (And.intro rfl (And.intro rfl (And.intro rfl (And.intro rfl (And.intro rfl (And.intro rfl (And.intro rfl (And.intro rfl (And.intro rfl (And.intro rfl trivial))))))))))))))) ?_
            rw [hK1198] at q_v
            rw [hK1198s] at q_s
            rw [hK1198x] at q_x
            exact X1198 a1198_14 s1198 h1198_ trivial hR1198_ hI1198_ hg1198 q_v q_s q_x
          · skip
            rw [if_neg c1210] at q_v
            rw [if_neg c1210] at q_s
            rw [if_neg c1210] at q_x
            refine J_aload_1 X dL_isLit_1213 ?_
            refine J_aload_4 X dL_isLit_1214 ?_
            refine J_bipush (v := (6 : Int32)) X dL_isLit_1216 (by decide) ?_
            refine J_iload_15 X dL_isLit_1218 ?_
            refine J_imul X dL_isLit_1220 ?_
            refine JL_ld X hR1198_.la 3 (by decide) (vp_up (vr_mul (vp_in_nI (n := 6) (N := 7) (by decide) (by decide)) (vp_in_nI (n := k1198) (N := 10) (by omega) (by decide)) (by decide)) (by decide)) dL_isLit_1221 ?_
            refine J_bipush (v := (64 : Int32)) X dL_isLit_1222 (by decide) ?_
            refine J_irem X dL_isLit_1224 (by decide) ?_
            refine JL_ld X hR1198_.la 0 (by decide) (vp_up (vr_rem (c := 64) (IL_3_0 hI1198_ (vp_up (vp_in_nI (n := k1198) (N := 10) (by omega) (by decide)) (by decide : _ ≤ 10))) (by decide) (by decide) (by decide)) (by decide)) dL_isLit_1225 ?_
            refine J_iconst (v := 4) X dL_isLit_1226 rfl ?_
            refine J_irem X dL_isLit_1227 (by decide) ?_
            refine J_iload_13 X dL_isLit_1228 ?_
            have K1230_1321 : ∀ (v1230_0 : Int32), v1230_0 = (L5_j1230l14 σ ξ one two k1198 a1198_14 s1198) → ∀ hj12 : fH, LH (kca K) hx hj12 α (L5_j1230_s σ ξ one two k1198 a1198_14 s1198) → J K hj12 [some (.ref r), some (.ref (α 0)), some (.ref (α 1)), some (.ref (α 2)), some (.ref (α 3)), some (.ref (α 4)), some (.ref (α 7)), some (.int (5 : Int32)), some (.int one), some (.int two), some (.int (one - one / ((σ 7 (ix (3 : Int32))) + (1 : Int32)) * ((σ 7 (ix (3 : Int32))) + (1 : Int32)))), some (.int (L5_j331 σ ξ one two)), some (.int (L5_j343 σ ξ one two)), some (.int (one - one / (5 : Int32) * (5 : Int32))), some (.int v1230_0), some (.int (nI k1198)), none, none, none, none, none, none, none, none, none] [] 1321 0 0 := by
              intro v1230_0 ev1230_0
              try rw [ev1230_0]
              clear ev1230_0
              intro hj12 hRj12
              have hI12 : IL (L5_j1230_s σ ξ one two k1198 a1198_14 s1198) := (by unfold L5_j1230_s; (repeat' split) <;> first | exact hI1198_ | exact IL_sS (IL_sS (IL_sS hI1198_ trivial) trivial) trivial)
              refine J_iinc_15 (v := (nI (k1198 + 1))) X dL_isLit_1321 (nI_1 _) rfl (by decide) ?_
              refine J_goto (tgt := 1198) X dL_isLit_1324 (by decide) ?_
              exact ih1198 (k1198 + 1) (L5_j1230l14 σ ξ one two k1198 a1198_14 s1198) (L5_j1230_s σ ξ one two k1198 a1198_14 s1198) hj12 (by omega) hRj12 hI12 (by unfold L5_j1230_s; (repeat' split) <;> exact hg1198) q_v q_s q_x
            have j1230_0 : L5_j1230l14 σ ξ one two k1198 a1198_14 s1198 = (if ((s1198 0 (ix ((s1198 3 (ix ((6 : Int32) * (nI k1198)))) - (s1198 3 (ix ((6 : Int32) * (nI k1198)))) / (64 : Int32) * (64 : Int32)))) - (s1198 0 (ix ((s1198 3 (ix ((6 : Int32) * (nI k1198)))) - (s1198 3 (ix ((6 : Int32) * (nI k1198)))) / (64 : Int32) * (64 : Int32)))) / (4 : Int32) * (4 : Int32)) = (one - one / (5 : Int32) * (5 : Int32)) then (if (L_isUnlawful s1198 (nI k1198)) = (0 : Int32) then a1198_14 else (if ((s1198 7 (ix (0 : Int32))) - (s1198 4 (ix (nI k1198)))) ≤ (719 : Int32) then a1198_14 else (a1198_14 + 1))) else a1198_14) := rfl
            have j1230_1 : L5_j1230_s σ ξ one two k1198 a1198_14 s1198 = (if ((s1198 0 (ix ((s1198 3 (ix ((6 : Int32) * (nI k1198)))) - (s1198 3 (ix ((6 : Int32) * (nI k1198)))) / (64 : Int32) * (64 : Int32)))) - (s1198 0 (ix ((s1198 3 (ix ((6 : Int32) * (nI k1198)))) - (s1198 3 (ix ((6 : Int32) * (nI k1198)))) / (64 : Int32) * (64 : Int32)))) / (4 : Int32) * (4 : Int32)) = (one - one / (5 : Int32) * (5 : Int32)) then (if (L_isUnlawful s1198 (nI k1198)) = (0 : Int32) then s1198 else (if ((s1198 7 (ix (0 : Int32))) - (s1198 4 (ix (nI k1198)))) ≤ (719 : Int32) then s1198 else (sS (sS (sS s1198 4 (ix (nI k1198)) (s1198 7 (ix (0 : Int32)))) 2 (ix (((4 : Int32) * (((s1198 3 (ix ((6 : Int32) * (nI k1198)))) / (64 : Int32)) - ((s1198 3 (ix ((6 : Int32) * (nI k1198)))) / (64 : Int32)) / (2 : Int32) * (2 : Int32))) + (1 : Int32))) ((s1198 2 (ix (((4 : Int32) * (((s1198 3 (ix ((6 : Int32) * (nI k1198)))) / (64 : Int32)) - ((s1198 3 (ix ((6 : Int32) * (nI k1198)))) / (64 : Int32)) / (2 : Int32) * (2 : Int32))) + (1 : Int32)))) - (10 : Int32))) 2 (ix (((4 : Int32) * (((s1198 3 (ix ((6 : Int32) * (nI k1198)))) / (64 : Int32)) - ((s1198 3 (ix ((6 : Int32) * (nI k1198)))) / (64 : Int32)) / (2 : Int32) * (2 : Int32))) + (2 : Int32))) (((sS (sS s1198 4 (ix (nI k1198)) (s1198 7 (ix (0 : Int32)))) 2 (ix (((4 : Int32) * (((s1198 3 (ix ((6 : Int32) * (nI k1198)))) / (64 : Int32)) - ((s1198 3 (ix ((6 : Int32) * (nI k1198)))) / (64 : Int32)) / (2 : Int32) * (2 : Int32))) + (1 : Int32))) ((s1198 2 (ix (((4 : Int32) * (((s1198 3 (ix ((6 : Int32) * (nI k1198)))) / (64 : Int32)) - ((s1198 3 (ix ((6 : Int32) * (nI k1198)))) / (64 : Int32)) / (2 : Int32) * (2 : Int32))) + (1 : Int32)))) - (10 : Int32))) 2 (ix (((4 : Int32) * (((s1198 3 (ix ((6 : Int32) * (nI k1198)))) / (64 : Int32)) - ((s1198 3 (ix ((6 : Int32) * (nI k1198)))) / (64 : Int32)) / (2 : Int32) * (2 : Int32))) + (2 : Int32)))) + (10 : Int32))))) else s1198) := rfl
            refine J_icmp_ne (tgt := 1321) X dL_isLit_1230 (by decide) (fun c1230 => ?_) (fun c1230 => ?_)
            · skip
              rw [if_neg c1230] at j1230_0
              rw [if_neg c1230] at j1230_1
              exact K1230_1321 _ j1230_0.symm _ (by rw [j1230_1]; exact hR1198_)
            · skip
              rw [if_pos c1230] at j1230_0
              rw [if_pos c1230] at j1230_1
              refine J_aload_1 X dL_isLit_1233 ?_
              refine J_aload_2 X dL_isLit_1234 ?_
              refine J_aload_4 X dL_isLit_1235 ?_
              refine J_iload_15 X dL_isLit_1237 ?_
              refine J_callS X (c_L_isUnlawful hR1198_.la hI1198_ (nI k1198) (vp_up (vp_in_nI (n := k1198) (N := 10) (by omega) (by decide)) (by decide))) (And.intro gw_4_104 cw_L_isUnlawful) rfl rfl (Nat.le_of_ble_eq_true rfl) dL_isLit_1239 rfl (J.pi ?_) JE.no
              refine J_if_eq (tgt := 1321) X dL_isLit_1242 (by decide) (fun c1242 => ?_) (fun c1242 => ?_)
              · skip
                rw [if_pos c1242] at j1230_0
                rw [if_pos c1242] at j1230_1
                exact K1230_1321 _ j1230_0.symm _ (by rw [j1230_1]; exact hR1198_)
              · skip
                rw [if_neg c1242] at j1230_0
                rw [if_neg c1242] at j1230_1
                refine J_aload_6 X dL_isLit_1245 ?_
                refine J_iconst (v := 0) X dL_isLit_1247 rfl ?_
                refine JL_ld X hR1198_.la 7 (by decide) (vp_up (vp_in_nI (n := 0) (N := 1) (by decide) (by decide)) (by decide)) dL_isLit_1248 ?_
                refine J_aload_5 X dL_isLit_1249 ?_
                refine J_iload_15 X dL_isLit_1251 ?_
                refine JL_ld X hR1198_.la 4 (by decide) (vp_up (vp_in_nI (n := k1198) (N := 10) (by omega) (by decide)) (by decide)) dL_isLit_1253 ?_
                refine J_isub X dL_isLit_1254 ?_
                refine J_sipush (v := (719 : Int32)) X dL_isLit_1255 (by decide) ?_
                refine J_icmp_le (tgt := 1321) X dL_isLit_1258 (by decide) (fun c1258 => ?_) (fun c1258 => ?_)
                · skip
                  rw [if_pos c1258] at j1230_0
                  rw [if_pos c1258] at j1230_1
                  exact K1230_1321 _ j1230_0.symm _ (by rw [j1230_1]; exact hR1198_)
                · skip
                  rw [if_neg c1258] at j1230_0
                  rw [if_neg c1258] at j1230_1
                  refine J_aload_5 X dL_isLit_1261 ?_
                  refine J_iload_15 X dL_isLit_1263 ?_
                  refine J_aload_6 X dL_isLit_1265 ?_
                  refine J_iconst (v := 0) X dL_isLit_1267 rfl ?_
                  refine JL_ld X hR1198_.la 7 (by decide) (vp_up (vp_in_nI (n := 0) (N := 1) (by decide) (by decide)) (by decide)) dL_isLit_1268 ?_
                  refine JL_st X hR1198_ 4 (by decide) (vp_up (vp_in_nI (n := k1198) (N := 10) (by omega) (by decide)) (by decide)) dL_isLit_1269 (fun h13 hR13 => ?_)
                  have hI13 : IL (sS s1198 4 (ix (nI k1198)) (s1198 7 (ix (0 : Int32)))) := (IL_sS hI1198_ trivial)
                  refine J_aload_3 X dL_isLit_1270 ?_
                  refine J_iconst (v := 4) X dL_isLit_1271 rfl ?_
                  refine J_aload_4 X dL_isLit_1272 ?_
                  refine J_bipush (v := (6 : Int32)) X dL_isLit_1274 (by decide) ?_
                  refine J_iload_15 X dL_isLit_1276 ?_
                  refine J_imul X dL_isLit_1278 ?_
                  refine JL_lv X hR13.la 3 (by decide) (vp_up (vr_mul (vp_in_nI (n := 6) (N := 7) (by decide) (by decide)) (vp_in_nI (n := k1198) (N := 10) (by omega) (by decide)) (by decide)) (by decide)) (v := (s1198 3 (ix ((6 : Int32) * (nI k1198))))) (by rw [sS_col (by decide)]) dL_isLit_1279 ?_
                  refine J_bipush (v := (64 : Int32)) X dL_isLit_1280 (by decide) ?_
                  refine J_idiv X dL_isLit_1282 (by decide) ?_
                  refine J_iconst (v := 2) X dL_isLit_1283 rfl ?_
                  refine J_irem X dL_isLit_1284 (by decide) ?_
                  refine J_imul X dL_isLit_1285 ?_
                  refine J_iconst (v := 1) X dL_isLit_1286 rfl ?_
                  refine J_iadd X dL_isLit_1287 ?_
                  refine J_dup2 X dL_isLit_1288 rfl rfl ?_
                  refine JL_lv X hR13.la 2 (by decide) (vp_up (vr_add (vr_mul (vp_in_nI (n := 4) (N := 5) (by decide) (by decide)) (vr_rem (c := 2) (vr_div (c := 64) (IL_3_0 hI1198_ (vp_up (vp_in_nI (n := k1198) (N := 10) (by omega) (by decide)) (by decide : _ ≤ 10))) (by decide) (by decide) (by decide)) (by decide) (by decide) (by decide)) (by decide)) (vp_in_nI (n := 1) (N := 2) (by decide) (by decide)) (by decide)) (by decide)) (v := (s1198 2 (ix (((4 : Int32) * (((s1198 3 (ix ((6 : Int32) * (nI k1198)))) / (64 : Int32)) - ((s1198 3 (ix ((6 : Int32) * (nI k1198)))) / (64 : Int32)) / (2 : Int32) * (2 : Int32))) + (1 : Int32))))) (by rw [sS_col (by decide)]) dL_isLit_1289 ?_
                  refine J_bipush (v := (10 : Int32)) X dL_isLit_1290 (by decide) ?_
                  refine J_isub X dL_isLit_1292 ?_
                  refine JL_st X hR13 2 (by decide) (vp_up (vr_add (vr_mul (vp_in_nI (n := 4) (N := 5) (by decide) (by decide)) (vr_rem (c := 2) (vr_div (c := 64) (IL_3_0 hI1198_ (vp_up (vp_in_nI (n := k1198) (N := 10) (by omega) (by decide)) (by decide : _ ≤ 10))) (by decide) (by decide) (by decide)) (by decide) (by decide) (by decide)) (by decide)) (vp_in_nI (n := 1) (N := 2) (by decide) (by decide)) (by decide)) (by decide)) dL_isLit_1293 (fun h14 hR14 => ?_)
                  have hI14 : IL (sS (sS s1198 4 (ix (nI k1198)) (s1198 7 (ix (0 : Int32)))) 2 (ix (((4 : Int32) * (((s1198 3 (ix ((6 : Int32) * (nI k1198)))) / (64 : Int32)) - ((s1198 3 (ix ((6 : Int32) * (nI k1198)))) / (64 : Int32)) / (2 : Int32) * (2 : Int32))) + (1 : Int32))) ((s1198 2 (ix (((4 : Int32) * (((s1198 3 (ix ((6 : Int32) * (nI k1198)))) / (64 : Int32)) - ((s1198 3 (ix ((6 : Int32) * (nI k1198)))) / (64 : Int32)) / (2 : Int32) * (2 : Int32))) + (1 : Int32)))) - (10 : Int32))) := (IL_sS hI13 trivial)
                  refine J_aload_3 X dL_isLit_1294 ?_
                  refine J_iconst (v := 4) X dL_isLit_1295 rfl ?_
                  refine J_aload_4 X dL_isLit_1296 ?_
                  refine J_bipush (v := (6 : Int32)) X dL_isLit_1298 (by decide) ?_
                  refine J_iload_15 X dL_isLit_1300 ?_
                  refine J_imul X dL_isLit_1302 ?_
                  refine JL_lv X hR14.la 3 (by decide) (vp_up (vr_mul (vp_in_nI (n := 6) (N := 7) (by decide) (by decide)) (vp_in_nI (n := k1198) (N := 10) (by omega) (by decide)) (by decide)) (by decide)) (v := (s1198 3 (ix ((6 : Int32) * (nI k1198))))) (by rw [sS_col (by decide), sS_col (by decide)]) dL_isLit_1303 ?_
                  refine J_bipush (v := (64 : Int32)) X dL_isLit_1304 (by decide) ?_
                  refine J_idiv X dL_isLit_1306 (by decide) ?_
                  refine J_iconst (v := 2) X dL_isLit_1307 rfl ?_
                  refine J_irem X dL_isLit_1308 (by decide) ?_
                  refine J_imul X dL_isLit_1309 ?_
                  refine J_iconst (v := 2) X dL_isLit_1310 rfl ?_
                  refine J_iadd X dL_isLit_1311 ?_
                  refine J_dup2 X dL_isLit_1312 rfl rfl ?_
                  refine JL_ld X hR14.la 2 (by decide) (vp_up (vr_add (vr_mul (vp_in_nI (n := 4) (N := 5) (by decide) (by decide)) (vr_rem (c := 2) (vr_div (c := 64) (IL_3_0 hI1198_ (vp_up (vp_in_nI (n := k1198) (N := 10) (by omega) (by decide)) (by decide : _ ≤ 10))) (by decide) (by decide) (by decide)) (by decide) (by decide) (by decide)) (by decide)) (vp_in_nI (n := 2) (N := 3) (by decide) (by decide)) (by decide)) (by decide)) dL_isLit_1313 ?_
                  refine J_bipush (v := (10 : Int32)) X dL_isLit_1314 (by decide) ?_
                  refine J_iadd X dL_isLit_1316 ?_
                  refine JL_st X hR14 2 (by decide) (vp_up (vr_add (vr_mul (vp_in_nI (n := 4) (N := 5) (by decide) (by decide)) (vr_rem (c := 2) (vr_div (c := 64) (IL_3_0 hI1198_ (vp_up (vp_in_nI (n := k1198) (N := 10) (by omega) (by decide)) (by decide : _ ≤ 10))) (by decide) (by decide) (by decide)) (by decide) (by decide) (by decide)) (by decide)) (vp_in_nI (n := 2) (N := 3) (by decide) (by decide)) (by decide)) (by decide)) dL_isLit_1317 (fun h15 hR15 => ?_)
                  have hI15 : IL (sS (sS (sS s1198 4 (ix (nI k1198)) (s1198 7 (ix (0 : Int32)))) 2 (ix (((4 : Int32) * (((s1198 3 (ix ((6 : Int32) * (nI k1198)))) / (64 : Int32)) - ((s1198 3 (ix ((6 : Int32) * (nI k1198)))) / (64 : Int32)) / (2 : Int32) * (2 : Int32))) + (1 : Int32))) ((s1198 2 (ix (((4 : Int32) * (((s1198 3 (ix ((6 : Int32) * (nI k1198)))) / (64 : Int32)) - ((s1198 3 (ix ((6 : Int32) * (nI k1198)))) / (64 : Int32)) / (2 : Int32) * (2 : Int32))) + (1 : Int32)))) - (10 : Int32))) 2 (ix (((4 : Int32) * (((s1198 3 (ix ((6 : Int32) * (nI k1198)))) / (64 : Int32)) - ((s1198 3 (ix ((6 : Int32) * (nI k1198)))) / (64 : Int32)) / (2 : Int32) * (2 : Int32))) + (2 : Int32))) (((sS (sS s1198 4 (ix (nI k1198)) (s1198 7 (ix (0 : Int32)))) 2 (ix (((4 : Int32) * (((s1198 3 (ix ((6 : Int32) * (nI k1198)))) / (64 : Int32)) - ((s1198 3 (ix ((6 : Int32) * (nI k1198)))) / (64 : Int32)) / (2 : Int32) * (2 : Int32))) + (1 : Int32))) ((s1198 2 (ix (((4 : Int32) * (((s1198 3 (ix ((6 : Int32) * (nI k1198)))) / (64 : Int32)) - ((s1198 3 (ix ((6 : Int32) * (nI k1198)))) / (64 : Int32)) / (2 : Int32) * (2 : Int32))) + (1 : Int32)))) - (10 : Int32))) 2 (ix (((4 : Int32) * (((s1198 3 (ix ((6 : Int32) * (nI k1198)))) / (64 : Int32)) - ((s1198 3 (ix ((6 : Int32) * (nI k1198)))) / (64 : Int32)) / (2 : Int32) * (2 : Int32))) + (2 : Int32)))) + (10 : Int32))) := (IL_sS hI14 trivial)
                  refine J_iinc_14 (v := (a1198_14 + 1)) X dL_isLit_1318 rfl rfl (by decide) ?_
                  exact K1230_1321 _ j1230_0.symm _ (by rw [j1230_1]; exact hR15)
      have q_v : (L5 σ ξ one two) = (L5_L1198 σ ξ one two K1198 (ix (σ 7 (ix (3 : Int32)))) 0 (0 : Int32) σ) := by rw [hK1198]; exact q_v
      have q_s : (L5_s σ ξ one two) = (L5_L1198_s σ ξ one two K1198s (ix (σ 7 (ix (3 : Int32)))) 0 (0 : Int32) σ) := by rw [hK1198s]; exact q_s
      have q_x : (L5_x σ ξ one two) = (L5_L1198_x σ ξ one two K1198x (ix (σ 7 (ix (3 : Int32)))) 0 (0 : Int32) σ) := by rw [hK1198x]; exact q_x
      exact L1198 (ix (σ 7 (ix (3 : Int32)))) 0 (0 : Int32) σ h (Nat.zero_add _) hL hI rfl q_v q_s q_x
    have j343_0 : L5_j343 σ ξ one two = (if (L5_j331 σ ξ one two) = (0 : Int32) then (0 : Int32) else (if (σ 3 (ix (((6 : Int32) * (one - one / ((σ 7 (ix (3 : Int32))) + (1 : Int32)) * ((σ 7 (ix (3 : Int32))) + (1 : Int32)))) + (5 : Int32)))) ≤ (σ 7 (ix (0 : Int32))) then (0 : Int32) else (1 : Int32))) := rfl
    refine J_if_eq (tgt := 367) X dL_isLit_343 (by decide) (fun c343 => ?_) (fun c343 => ?_)
    · skip
      rw [if_pos c343] at j343_0
      refine J_iconst (v := 0) X dL_isLit_367 rfl ?_
      exact K343_368 _ j343_0.symm
    · skip
      rw [if_neg c343] at j343_0
      refine J_aload_4 X dL_isLit_346 ?_
      refine J_bipush (v := (6 : Int32)) X dL_isLit_348 (by decide) ?_
      refine J_iload_10 X dL_isLit_350 ?_
      refine J_imul X dL_isLit_352 ?_
      refine J_iconst (v := 5) X dL_isLit_353 rfl ?_
      refine J_iadd X dL_isLit_354 ?_
      refine JL_ld X hL.la 3 (by decide) (vp_up (vr_add (vr_mul (vp_in_nI (n := 6) (N := 7) (by decide) (by decide)) (L5_is (ξ := ξ) (two := two) hI h1 c343).2 (by decide)) (vp_in_nI (n := 5) (N := 6) (by decide) (by decide)) (by decide)) (by decide)) dL_isLit_355 ?_
      refine J_aload_6 X dL_isLit_356 ?_
      refine J_iconst (v := 0) X dL_isLit_358 rfl ?_
      refine JL_ld X hL.la 7 (by decide) (vp_up (vp_in_nI (n := 0) (N := 1) (by decide) (by decide)) (by decide)) dL_isLit_359 ?_
      refine J_icmp_le (tgt := 367) X dL_isLit_360 (by decide) (fun c360 => ?_) (fun c360 => ?_)
      · skip
        rw [if_pos c360] at j343_0
        refine J_iconst (v := 0) X dL_isLit_367 rfl ?_
        exact K343_368 _ j343_0.symm
      · skip
        rw [if_neg c360] at j343_0
        refine J_iconst (v := 1) X dL_isLit_363 rfl ?_
        refine J_goto (tgt := 368) X dL_isLit_364 (by decide) ?_
        exact K343_368 _ j343_0.symm
  have j331_0 : L5_j331 σ ξ one two = (if (σ 7 (ix (3 : Int32))) ≤ (one - one / ((σ 7 (ix (3 : Int32))) + (1 : Int32)) * ((σ 7 (ix (3 : Int32))) + (1 : Int32))) then (0 : Int32) else (1 : Int32)) := rfl
  refine J_icmp_ge (tgt := 338) X dL_isLit_331 (by decide) (fun c331 => ?_) (fun c331 => ?_)
  · skip
    rw [if_pos c331] at j331_0
    refine J_iconst (v := 0) X dL_isLit_338 rfl ?_
    exact K331_339 _ j331_0.symm
  · skip
    rw [if_neg c331] at j331_0
    refine J_iconst (v := 1) X dL_isLit_334 rfl ?_
    refine J_goto (tgt := 339) X dL_isLit_335 (by decide) ?_
    exact K331_339 _ j331_0.symm
end
