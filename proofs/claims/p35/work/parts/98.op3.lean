noncomputable section
theorem sh32 : ∀ d : Fin 30, (nI d.1 &&& 31).toBitVec.smod 32 = BitVec.ofNat 32 d.1 := by decide +kernel
theorem one_sh : ∀ e d : Fin 30, (((1 : Int32) <<< (nI e.1 &&& 31)).toBitVec.getLsbD d.1) = decide (d.1 = e.1) := by decide +kernel
theorem bit_eq (x : Int32) {d : Nat} (hd : d < 30) : (x >>> (nI d &&& 31)) &&& 1 = if x.toBitVec.getLsbD d then 1 else 0 := by
  apply Int32.toBitVec_inj.mp
  rw [Int32.toBitVec_and, Int32.toBitVec_shiftRight, sh32 ⟨d, hd⟩]
  apply BitVec.eq_of_getLsbD_eq
  intro i hi
  rw [BitVec.getLsbD_and, BitVec.sshiftRight_eq', BitVec.getLsbD_sshiftRight, BitVec.toNat_ofNat, Nat.mod_eq_of_lt (show d < 2 ^ 32 by omega)]
  by_cases c : i = 0
  · subst c
    rw [if_pos (show d + 0 < 32 by omega), Nat.add_zero, show (1 : Int32).toBitVec.getLsbD 0 = true from by decide]
    cases x.toBitVec.getLsbD d <;> decide
  · have e1 : (1 : Int32).toBitVec.getLsbD i = false := by
      rw [show (1 : Int32).toBitVec = 1#32 from rfl, BitVec.getLsbD_one]
      simp [c]
    rw [e1, Bool.and_false]
    cases x.toBitVec.getLsbD d
    · exact (show (0#32).getLsbD i = false from BitVec.getLsbD_zero).symm
    · exact e1.symm
theorem bit_or (x : Int32) {e d : Nat} (he : e < 30) (hd : d < 30) : ((x ||| ((1 : Int32) <<< (nI e &&& 31))) >>> (nI d &&& 31)) &&& 1 = if d = e then 1 else (x >>> (nI d &&& 31)) &&& 1 := by
  rw [bit_eq _ hd, bit_eq _ hd, Int32.toBitVec_or, BitVec.getLsbD_or, one_sh ⟨e, he⟩ ⟨d, hd⟩]
  by_cases c : d = e
  · rw [if_pos c, decide_eq_true c, Bool.or_true, if_pos rfl]
  · rw [if_neg c, decide_eq_false c, Bool.or_false]
section OP3
variable {ξ τ : St}
theorem LQ_feast (hQ : LQ ξ τ) {z d : Nat} (hz : z < 4) (hd : d < 30) : LQ (sS ξ 7 (1000 * z + d) 1) (sS τ 1 (4 + z) (τ 1 (4 + z) ||| ((1 : Int32) <<< (nI d &&& 31)))) := by
  refine ⟨hQ.1, hQ.2.1, fun j hj => ?_, fun j hj e he => ?_, hQ.2.2.2.2⟩
  · rw [sS_at, if_neg (by omega)]
    exact hQ.z hj
  · rw [sS_at, sS_at]
    by_cases c : j = z
    · subst c
      rw [if_pos rfl]
      by_cases w : e < 30
      · rw [if_pos w, bit_or _ hd w]
        by_cases q : e = d
        · rw [if_pos q, if_pos (by omega)]
        · rw [if_neg q, if_neg (by omega), hQ.fe hj he, if_pos w]
      · rw [if_neg w, if_neg (by omega), hQ.fe hj he, if_neg w]
    · rw [if_neg (by omega), if_neg (show ¬ 4 + j = 4 + z by omega)]
      exact hQ.fe hj he
theorem cntF_tail {g : Nat → Int32} : ∀ m, (∀ d, 30 ≤ d → d < 30 + m → g d = 0) → cntF g (30 + m) = cntF g 30 := by
  intro m
  induction m with
  | zero => intro _; rfl
  | succ m ih =>
    intro h
    show cntF g (30 + m) + (if g (30 + m) = 0 then 0 else 1) = _
    rw [if_pos (h _ (by omega) (by omega)), Int32.add_zero, ih (fun d h1 h2 => h d h1 (by omega))]
theorem T3_sum {s x : St} {o t : Int32} {g : Nat → Int32} (hg : ∀ d, d < 30 → g d = ((s 1 (ix ((4 : Int32) + T3_j32 s x o t)) ||| ((1 : Int32) <<< (T3_j444 s x o t &&& 31))) >>> (nI d &&& 31)) &&& 1) (K : Int32 → Int32) (KS KX : Int32 → St) : ∀ n k, k + n = 30 → T3_L530 s x o t K n k (cntF g k) = K (cntF g 30) ∧ T3_L530_s s x o t KS n k (cntF g k) = KS (cntF g 30) ∧ T3_L530_x s x o t KX n k (cntF g k) = KX (cntF g 30) := by
  intro n
  induction n with
  | zero =>
    intro k hk
    rw [T3_L530, T3_L530_s, T3_L530_x, show k = 30 by omega]
    exact ⟨rfl, rfl, rfl⟩
  | succ n ih =>
    intro k hk
    have e : cntF g k + (((s 1 (ix ((4 : Int32) + T3_j32 s x o t)) ||| ((1 : Int32) <<< (T3_j444 s x o t &&& 31))) >>> (nI k &&& 31)) &&& 1) = cntF g (k + 1) := by
      rw [← hg k (by omega)]
      show _ = cntF g k + (if g k = 0 then 0 else 1)
      congr 1
      have h01 : g k = 0 ∨ g k = 1 := by
        rw [hg k (by omega), bit_eq _ (by omega)]
        split
        · exact Or.inr rfl
        · exact Or.inl rfl
      rcases h01 with z | z
      · rw [z, if_pos rfl]
      · rw [z, if_neg i10]
    rw [T3_L530, T3_L530_s, T3_L530_x, e]
    exact ih (k + 1) (by omega)
end OP3
section OPT3
variable {ξ τ : St} {one two : Int32}
theorem T3_day (hQ : LQ ξ τ) (hI : InvX ξ) (h1 : vp_in one 60000) (c : ¬ T3_j482 τ ξ one two = 0) : vp_in (T3_j444 τ ξ one two) 30 := by
  unfold T3_j482 at c
  unfold T3_j444 at c ⊢
  by_cases d : one - one / (9 : Int32) * (9 : Int32) = 0
  · rw [if_pos d] at c
    obtain ⟨j, hj, e⟩ := vn (vr_rem (c := 2) (vr_div (c := 9) h1 (by decide) (by decide) (by decide)) (by decide) (by decide) (by decide)) (by decide)
    have e' : one / (9 : Int32) - one / (9 : Int32) / (2 : Int32) * (2 : Int32) = nI j := e
    rw [e'] at c
    have hj' : j = 0 ∨ j = 1 := by omega
    rcases hj' with z | z
    · subst z
      exact absurd (by decide +kernel) c
    · subst z
      exact absurd (by decide +kernel) c
  · rw [if_neg d]
    exact vr_rem (c := 30) (vr_add (vr_div (c := 24) (IL_7_0 (IL_of hQ hI)) (by decide) (by decide) (by decide)) (vr_rem (c := 3) h1 (by decide) (by decide) (by decide)) (by decide)) (by decide) (by decide) (by decide)
theorem T3_ok (hQ : LQ ξ τ) (hI : InvX ξ) (hO : InvO ξ) (h1 : vp_in one 60000) (h2 : vp_in two 60000) : T3 τ ξ one two = 1 ∧ LQ (T3_x τ ξ one two) (T3_s τ ξ one two) ∧ InvX (T3_x τ ξ one two) ∧ InvO (T3_x τ ξ one two) := by
  have hz := T3_zn (σ := τ) (ξ := ξ) (one := one) h2
  have ez : M_isZone (T3_j32 τ ξ one two) = 0 ↔ (4 : Int32) ≤ T3_j32 τ ξ one two := by
    rw [zone_iff, (le_n (c := 4) (N := 4) hz (by decide) (by decide) rfl).1]
    constructor
    · intro z
      exact Nat.le_of_not_lt fun w => z (by rw [vp_nI' hz (by decide)]; exact vp_in_nI w (by decide))
    · intro z w
      have := vp_lt w
      omega
  have ez4 : T3_j32 τ ξ one two = 4 ↔ (4 : Int32) ≤ T3_j32 τ ξ one two := by
    rw [(le_n (c := 4) (N := 4) hz (by decide) (by decide) rfl).1, eq_n (c := 4) (N := 4) hz (by decide) (by decide) rfl]
    have := vp_lt hz
    omega
  have e8 : M_isIn (T3_j444 τ ξ one two) 0 999 = 0 ↔ T3_j482 τ ξ one two = 0 := by
    have e := isIn_iff (v := T3_j444 τ ξ one two) (a := 0) (b := 999)
    rw [Int32.toInt_zero, show (999 : Int32).toInt = 999 from rfl] at e
    unfold T3_j482
    by_cases a : T3_j444 τ ξ one two < 0
    · rw [if_pos a]
      rw [Int32.lt_iff_toInt_lt, Int32.toInt_zero] at a
      exact ⟨fun _ => rfl, fun _ => Classical.byContradiction fun w => by have := e.mp w; omega⟩
    · rw [if_neg a]
      rw [Int32.lt_iff_toInt_lt, Int32.toInt_zero] at a
      by_cases b : (1000 : Int32) ≤ T3_j444 τ ξ one two
      · rw [if_pos b]
        rw [Int32.le_iff_toInt_le, show (1000 : Int32).toInt = 1000 from rfl] at b
        exact ⟨fun _ => rfl, fun _ => Classical.byContradiction fun w => by have := e.mp w; omega⟩
      · rw [if_neg b]
        rw [Int32.le_iff_toInt_le, show (1000 : Int32).toInt = 1000 from rfl] at b
        exact ⟨fun w => absurd w (e.mpr (by omega)), fun w => absurd w i10⟩
  unfold T3 T3_x T3_s
  by_cases c : (4 : Int32) ≤ T3_j32 τ ξ one two
  · have hj : M_feast_j5 ξ (T3_j32 τ ξ one two) (T3_j444 τ ξ one two) = 1 := by
      unfold M_feast_j5
      rw [if_pos (ez.mpr c)]
    rw [if_pos c, if_pos c, if_pos c]
    refine ⟨?_, ?_, IO_feast hI hO _ _⟩
    · unfold T3_j594 T3_j574 DV_2 M_feast_s
      rw [hj, if_neg (nf1 ξ), f41, if_neg i10, if_pos rfl, if_pos (ez4.mpr c)]
      exact if_pos rfl
    · unfold M_feast_s
      rw [hj, if_neg (nf1 ξ)]
      exact hQ.ext (sEq.f ξ 1)
  rw [if_neg c, if_neg c, if_neg c]
  by_cases d : T3_j482 τ ξ one two = 0
  · have hj : M_feast_j5 ξ (T3_j32 τ ξ one two) (T3_j444 τ ξ one two) = 2 := by
      unfold M_feast_j5
      rw [if_neg (fun z => c (ez.mp z)), if_pos (e8.mpr d)]
    rw [if_pos d, if_pos d, if_pos d]
    refine ⟨?_, ?_, IO_feast hI hO _ _⟩
    · unfold T3_j594 T3_j574 DV_2 M_feast_s
      rw [hj, if_neg (nf2 ξ), f41, if_neg n20, if_neg n21, if_neg (fun z => c (ez4.mp z)), if_pos d]
      exact if_pos rfl
    · unfold M_feast_s
      rw [hj, if_neg (nf2 ξ)]
      exact hQ.ext (sEq.f ξ 2)
  rw [if_neg d, if_neg d, if_neg d]
  have hj : M_feast_j5 ξ (T3_j32 τ ξ one two) (T3_j444 τ ξ one two) = 0 := by
    unfold M_feast_j5
    rw [if_neg (fun z => c (ez.mp z)), if_neg (fun z => d (e8.mp z))]
  have hz4 : vp_in (T3_j32 τ ξ one two) 4 := Classical.byContradiction fun w => c (ez.mp (zone_iff.mpr w))
  have hd := T3_day hQ hI h1 d
  have lz := vp_lt hz4
  have ld := vp_lt hd
  have e4 : ix ((4 : Int32) + T3_j32 τ ξ one two) = 4 + ix (T3_j32 τ ξ one two) := by
    have q := vp_nI' hz4 (by decide)
    generalize ix (T3_j32 τ ξ one two) = z at *
    rw [q, show (4 : Int32) = nI 4 from rfl, nI_add, ixn (by omega)]
  have e7 : ix ((1000 : Int32) * T3_j32 τ ξ one two + T3_j444 τ ξ one two) = 1000 * ix (T3_j32 τ ξ one two) + ix (T3_j444 τ ξ one two) := by
    have q := vp_nI' hz4 (by decide)
    have r := vp_nI' hd (by decide)
    generalize ix (T3_j32 τ ξ one two) = z at *
    generalize ix (T3_j444 τ ξ one two) = y at *
    rw [q, r, show (1000 : Int32) = nI 1000 from rfl, pk_mul, nI_add, ixn (by omega)]
  have hQ2 := LQ_feast (hQ.ext (sEq.f ξ 0)) lz ld
  have ed := vp_nI' hd (by decide)
  have hg : ∀ y, y < 30 → (sS (M_fails_s ξ 0) 7 (1000 * ix (T3_j32 τ ξ one two) + ix (T3_j444 τ ξ one two)) 1) 7 (1000 * ix (T3_j32 τ ξ one two) + y) = ((τ 1 (ix ((4 : Int32) + T3_j32 τ ξ one two)) ||| ((1 : Int32) <<< (T3_j444 τ ξ one two &&& 31))) >>> (nI y &&& 31)) &&& 1 := by
    intro y hy
    rw [hQ2.fe lz (by omega), if_pos hy, sS_same, e4, ← ed]
  have hcnt : cntF (fun y => (sS (M_fails_s ξ 0) 7 (1000 * ix (T3_j32 τ ξ one two) + ix (T3_j444 τ ξ one two)) 1) 7 (1000 * ix (T3_j32 τ ξ one two) + y)) 1000 = cntF (fun y => (sS (M_fails_s ξ 0) 7 (1000 * ix (T3_j32 τ ξ one two) + ix (T3_j444 τ ξ one two)) 1) 7 (1000 * ix (T3_j32 τ ξ one two) + y)) 30 := cntF_tail 970 (fun y y1 y2 => by
    rw [hQ2.fe lz (by omega), if_neg (by omega)])
  have hv : M_feast ξ (T3_j32 τ ξ one two) (T3_j444 τ ξ one two) = cntF (fun y => (sS (M_fails_s ξ 0) 7 (1000 * ix (T3_j32 τ ξ one two) + ix (T3_j444 τ ξ one two)) 1) 7 (1000 * ix (T3_j32 τ ξ one two) + y)) 30 := by
    unfold M_feast
    rw [hj, if_pos (fails_0 ξ), ← hcnt, n1000_eq]
    exact (fst_cnt hj (fun y => (sS (M_fails_s ξ 0) 7 (1000 * ix (T3_j32 τ ξ one two) + ix (T3_j444 τ ξ one two)) 1) 7 (1000 * ix (T3_j32 τ ξ one two) + y)) (1000 * ix (T3_j32 τ ξ one two)) (by omega) (fun y => by rw [e7]) 1000 0 (by decide)).trans (by rw [Nat.zero_add])
  have hs : M_feast_s ξ (T3_j32 τ ξ one two) (T3_j444 τ ξ one two) = sS (M_fails_s ξ 0) 7 (1000 * ix (T3_j32 τ ξ one two) + ix (T3_j444 τ ξ one two)) 1 := by
    unfold M_feast_s
    rw [hj, if_pos (fails_0 ξ), fst_s, e7]
  have h3 := T3_sum (s := τ) (x := ξ) (o := one) (t := two) hg (fun a => T3_j594x1 τ ξ one two a) (fun _ => sS τ 1 (ix ((4 : Int32) + T3_j32 τ ξ one two)) (τ 1 (ix ((4 : Int32) + T3_j32 τ ξ one two)) ||| ((1 : Int32) <<< (T3_j444 τ ξ one two &&& 31)))) (fun _ => M_feast_s ξ (T3_j32 τ ξ one two) (T3_j444 τ ξ one two)) 30 0 rfl
  rw [show cntF (fun y => (sS (M_fails_s ξ 0) 7 (1000 * ix (T3_j32 τ ξ one two) + ix (T3_j444 τ ξ one two)) 1) 7 (1000 * ix (T3_j32 τ ξ one two) + y)) 0 = 0 from rfl] at h3
  rw [n30_eq, h3.1, h3.2.1, h3.2.2]
  refine ⟨?_, ?_, IO_feast hI hO _ _⟩
  · unfold T3_j594x1 T3_j574x1 DV_2
    rw [hs, sS_col (by decide), f41, if_pos rfl, hv, if_neg (fun z => c (ez4.mp z)), if_neg d]
    exact if_pos rfl
  · rw [hs, e4]
    rw [← ed] at hQ2
    exact hQ2
end OPT3
end
