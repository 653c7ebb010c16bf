noncomputable section
theorem LC_ridge {K : KT} {mn : String} {ret : Option FieldType} {tb : List ExceptionTableEntry} {w0 : Cond} {h0 : fH} {post : Option Value → fH → Prop} {px : String → fH → Prop} (X : JX K mn "NightValleyLaw" cL_law_ 8 ret tb w0 room_1 h0 post px) {b L i r m o : Nat} {xs : Nat → Int32} (S : LSc K b L i xs) : CASE K b r m o i 184 := by
  intro hx hm g σ cells slots hLI hc hs k
  obtain ⟨⟨ρ, μ, cap, hR, hr, hcap⟩, ⟨ρm, hRM⟩, hI, hO, h1, h2, h3⟩ := hLI
  subst hr
  obtain ⟨S1, S2, S3, S4, S5⟩ := S
  generalize e1 : xs (nI i + 1).toNatClampNeg = a1
  generalize e2 : xs (nI i + 2).toNatClampNeg = a2
  generalize f2 : zb a2 = p2
  have hp2 := zb_b f2
  refine J_aload_1 X dL_law__184 ?_
  refine J_aload_0 X dL_law__185 ?_
  refine J_iload_4 X dL_law__186 ?_
  refine J_iconst (v := 1) X dL_law__188 rfl ?_
  refine J_iadd X dL_law__189 ?_
  refine J_sld X S1 S2 S3 (lin (j := 1) S5 S4 (by decide)) e1 dL_law__190 ?_
  refine J_aload_0 X dL_law__191 ?_
  refine J_iload_4 X dL_law__192 ?_
  refine J_iconst (v := 2) X dL_law__194 rfl ?_
  refine J_iadd X dL_law__195 ?_
  refine J_sld X S1 S2 S3 (lin (j := 2) S5 S4 (by decide)) e2 dL_law__196 ?_
  refine J_bz X f2 dL_law__197 dL_law__200 dL_law__201 dL_law__204 ?_
  refine J_aload_3 X dL_law__205 ?_
  refine J_callSW X (fr_x (c_L_ridge hR hI hcap a1 p2 hp2 h2) h1 h3) (And.intro gw_2_38 cw_L_ridge) rfl (hroom2 (show cells + 1 ≤ 601024 by omega) (show slots + 6 ≤ 7293034 by omega)) (Nat.le_of_ble_eq_true rfl) dL_law__206 rfl (fun v h' e => ?_) (fun E h' e => e.elim)
  obtain ⟨e0, h2x, hRA, ap1, ap2, e⟩ := e
  subst e0
  subst e
  show J K _ [some (.ref b), some (.ref (ρ 0 0)), some (.ref m), some (.ref o), some (.int (nI i)), none, none, none] [.int (lawK (X_ridge_c σ a1 p2) 1 0 0)] 209 (cells + 1) (slots + 6)
  refine J_istore_5 X dL_law__209 rfl (by decide) ?_
  refine J_aload_2 X dL_law__211 ?_
  refine J_aload_0 X dL_law__212 ?_
  refine J_iload_4 X dL_law__213 ?_
  refine J_iconst (v := 1) X dL_law__215 rfl ?_
  refine J_iadd X dL_law__216 ?_
  refine J_sld X S1 S2 S3 (lin (j := 1) S5 S4 (by decide)) e1 dL_law__217 ?_
  refine J_aload_0 X dL_law__218 ?_
  refine J_iload_4 X dL_law__219 ?_
  refine J_iconst (v := 2) X dL_law__221 rfl ?_
  refine J_iadd X dL_law__222 ?_
  refine J_sld X S1 S2 S3 (lin (j := 2) S5 S4 (by decide)) e2 dL_law__223 ?_
  refine J_bz X f2 dL_law__224 dL_law__227 dL_law__228 dL_law__231 ?_
  refine J_callV X (fr_m (c_M_ridge hRM hI.1 a1 p2 hp2) ap1 ap2 h3) (And.intro gw_5_141 cw_X11_ridge) (un_mid_l ap1 hRM.1) rfl rfl (hroom2 (show cells + 1 ≤ 601024 by omega) (show slots + 6 ≤ 7293034 by omega)) (Nat.le_of_ble_eq_true rfl) dL_law__232 rfl (fun v h' e => ?_) (fun E h' e => e.elim)
  obtain ⟨hm2, ⟨e0, hRM2⟩, b1, b2, e⟩ := e
  subst e0
  subst e
  show J K _ [some (.ref b), some (.ref (ρ 0 0)), some (.ref m), some (.ref o), some (.int (nI i)), some (.int (lawK (X_ridge_c σ a1 p2) 1 0 0)), none, none] [.int (M_ridge σ a1 p2)] 235 (cells + 1) (slots + 6)
  refine J_istore_6 X dL_law__235 rfl (by decide) ?_
  refine J_aload_2 X dL_law__237 ?_
  refine J_callV X (fr_m (c_M_thrown hRM2) b1 ap2 b2) (And.intro gw_5_137 cw_X11_thrown) (un_mid_l b1 hRM2.1) rfl rfl (hroom2 (show cells + 1 ≤ 601024 by omega) (show slots + 6 ≤ 7293034 by omega)) (Nat.le_of_ble_eq_true rfl) dL_law__238 rfl (fun v h' e => ?_) (fun E h' e => e.elim)
  obtain ⟨hm3, ⟨e0, e4⟩, b3, b4, e⟩ := e
  subst e0
  subst e
  subst e4
  show J K _ [some (.ref b), some (.ref (ρ 0 0)), some (.ref m), some (.ref o), some (.int (nI i)), some (.int (lawK (X_ridge_c σ a1 p2) 1 0 0)), some (.int (M_ridge σ a1 p2)), none] [.int (M_thrown (M_ridge_s σ a1 p2))] 241 (cells + 1) (slots + 6)
  have hcx : X_ridge_c σ a1 p2 = 0 ∨ X_ridge_c σ a1 p2 = 1 ∨ X_ridge_c σ a1 p2 = 2 ∨ X_ridge_c σ a1 p2 = 3 := by
    rcases C_ridge (σ := σ) (p1 := a1) (p2 := p2) with z | z <;> rw [z] <;> decide
  have q := (Q_ridge σ a1 p2).law hcx
  have F := fin3 hRA hRA hI hO (N_ridge σ a1 p2) q.2.2.1 q.2.2.2 (I_ridge hI a1 hp2) (O_ridge hO a1 p2)
  refine J_iload_5 X dL_law__241 ?_
  refine J_icmp_eq (tgt := 248) X dL_law__243 (by decide) (fun _ => ?_) (fun z => absurd q.1 z)
  refine J_iload_5 X dL_law__248 ?_
  have KE : J K (un h2x (un hm3 (one o (oc (kca K) (if X_ridge_c σ a1 p2 = 0 then vp_updL g 0 (if X_ridge σ a1 p2 = 0 then (0 : Int64) else 1) else g))))) [some (.ref b), some (.ref (ρ 0 0)), some (.ref m), some (.ref o), some (.int (nI i)), some (.int (lawK (X_ridge_c σ a1 p2) 1 0 0)), some (.int (M_ridge σ a1 p2)), none] [] 272 (cells + 1) (slots + 6) := by
    refine J_goto (tgt := 2310) X dL_law__272 (by decide) ?_
    refine J.subL (lv' := [some (.ref b), some (.ref (ρ 0 0)), some (.ref m), some (.ref o), some (.int (nI i)), none, none, none]) ⟨rfl, rfl, rfl, rfl, rfl, trivial⟩ ?_
    exact J.widen (show cells + 1 ≤ cells + 8 by omega) (show slots + 6 ≤ slots + 148 by omega) (k _ _ _ _ ⟨F.1, ⟨ρm, hRM2⟩, F.2.1, F.2.2, b3, ap2, b4⟩)
  refine J_if_ne (tgt := 272) X dL_law__250 (by decide) (fun _ => KE) (fun z => ?_)
  have z0 : X_ridge_c σ a1 p2 = 0 := by
    rcases C_ridge (σ := σ) (p1 := a1) (p2 := p2) with w | w
    · exact w
    · rw [w] at z; exact absurd z (by decide)
  refine J_aload_3 X dL_law__253 ?_
  refine J_iconst (v := 0) X dL_law__254 rfl ?_
  refine J_lald' X (N := 1) (v := (zl (X_ridge σ a1 p2))) (un_out ap2 b4) vp01 (by rw [if_pos z0]; exact updL0 _ _) dL_law__255 ?_
  refine J_iload_6 X dL_law__256 ?_
  refine J_bl X dL_law__258 dL_law__261 dL_law__262 dL_law__265 ?_
  refine J_lcmp X dL_law__266 ?_
  exact J_if_eq (tgt := 272) X dL_law__267 (by decide) (fun _ => KE) (fun z => absurd (lg_eq (congrArg zl (q.2.1 z0).symm)) z)
theorem LC_zone {K : KT} {mn : String} {ret : Option FieldType} {tb : List ExceptionTableEntry} {w0 : Cond} {h0 : fH} {post : Option Value → fH → Prop} {px : String → fH → Prop} (X : JX K mn "NightValleyLaw" cL_law_ 8 ret tb w0 room_1 h0 post px) {b L i r m o : Nat} {xs : Nat → Int32} (S : LSc K b L i xs) : CASE K b r m o i 275 := by
  intro hx hm g σ cells slots hLI hc hs k
  obtain ⟨⟨ρ, μ, cap, hR, hr, hcap⟩, ⟨ρm, hRM⟩, hI, hO, h1, h2, h3⟩ := hLI
  subst hr
  obtain ⟨S1, S2, S3, S4, S5⟩ := S
  generalize e1 : xs (nI i + 1).toNatClampNeg = a1
  generalize e2 : xs (nI i + 2).toNatClampNeg = a2
  refine J_aload_1 X dL_law__275 ?_
  refine J_aload_0 X dL_law__276 ?_
  refine J_iload_4 X dL_law__277 ?_
  refine J_iconst (v := 1) X dL_law__279 rfl ?_
  refine J_iadd X dL_law__280 ?_
  refine J_sld X S1 S2 S3 (lin (j := 1) S5 S4 (by decide)) e1 dL_law__281 ?_
  refine J_aload_0 X dL_law__282 ?_
  refine J_iload_4 X dL_law__283 ?_
  refine J_iconst (v := 2) X dL_law__285 rfl ?_
  refine J_iadd X dL_law__286 ?_
  refine J_sld X S1 S2 S3 (lin (j := 2) S5 S4 (by decide)) e2 dL_law__287 ?_
  refine J_aload_3 X dL_law__288 ?_
  refine J_callSW X (fr_x (c_L_zone hR hI hcap a1 a2 h2) h1 h3) (And.intro gw_2_134 cw_L_zone) rfl (hroom2 (show cells + 2 ≤ 601024 by omega) (show slots + 12 ≤ 7293034 by omega)) (Nat.le_of_ble_eq_true rfl) dL_law__289 rfl (fun v h' e => ?_) (fun E h' e => e.elim)
  obtain ⟨e0, h2x, hRA, ap1, ap2, e⟩ := e
  subst e0
  subst e
  show J K _ [some (.ref b), some (.ref (ρ 0 0)), some (.ref m), some (.ref o), some (.int (nI i)), none, none, none] [.int (lawK (X_zone_c σ a1 a2) 1 0 0)] 292 (cells + 2) (slots + 12)
  refine J_istore_5 X dL_law__292 rfl (by decide) ?_
  refine J_aload_2 X dL_law__294 ?_
  refine J_aload_0 X dL_law__295 ?_
  refine J_iload_4 X dL_law__296 ?_
  refine J_iconst (v := 1) X dL_law__298 rfl ?_
  refine J_iadd X dL_law__299 ?_
  refine J_sld X S1 S2 S3 (lin (j := 1) S5 S4 (by decide)) e1 dL_law__300 ?_
  refine J_aload_0 X dL_law__301 ?_
  refine J_iload_4 X dL_law__302 ?_
  refine J_iconst (v := 2) X dL_law__304 rfl ?_
  refine J_iadd X dL_law__305 ?_
  refine J_sld X S1 S2 S3 (lin (j := 2) S5 S4 (by decide)) e2 dL_law__306 ?_
  refine J_callV X (fr_m (c_M_zone hRM hI.1 a1 a2) ap1 ap2 h3) (And.intro gw_5_155 cw_X11_zone) (un_mid_l ap1 hRM.1) rfl rfl (hroom2 (show cells + 2 ≤ 601024 by omega) (show slots + 12 ≤ 7293034 by omega)) (Nat.le_of_ble_eq_true rfl) dL_law__307 rfl (fun v h' e => ?_) (fun E h' e => e.elim)
  obtain ⟨hm2, ⟨e0, hRM2⟩, b1, b2, e⟩ := e
  subst e0
  subst e
  show J K _ [some (.ref b), some (.ref (ρ 0 0)), some (.ref m), some (.ref o), some (.int (nI i)), some (.int (lawK (X_zone_c σ a1 a2) 1 0 0)), none, none] [.int (M_zone σ a1 a2)] 310 (cells + 2) (slots + 12)
  refine J_istore_6 X dL_law__310 rfl (by decide) ?_
  refine J_aload_2 X dL_law__312 ?_
  refine J_callV X (fr_m (c_M_thrown hRM2) b1 ap2 b2) (And.intro gw_5_137 cw_X11_thrown) (un_mid_l b1 hRM2.1) rfl rfl (hroom2 (show cells + 2 ≤ 601024 by omega) (show slots + 12 ≤ 7293034 by omega)) (Nat.le_of_ble_eq_true rfl) dL_law__313 rfl (fun v h' e => ?_) (fun E h' e => e.elim)
  obtain ⟨hm3, ⟨e0, e4⟩, b3, b4, e⟩ := e
  subst e0
  subst e
  subst e4
  show J K _ [some (.ref b), some (.ref (ρ 0 0)), some (.ref m), some (.ref o), some (.int (nI i)), some (.int (lawK (X_zone_c σ a1 a2) 1 0 0)), some (.int (M_zone σ a1 a2)), none] [.int (M_thrown (M_zone_s σ a1 a2))] 316 (cells + 2) (slots + 12)
  have hcx : X_zone_c σ a1 a2 = 0 ∨ X_zone_c σ a1 a2 = 1 ∨ X_zone_c σ a1 a2 = 2 ∨ X_zone_c σ a1 a2 = 3 := by
    rcases C_zone (σ := σ) (p1 := a1) (p2 := a2) with z | z <;> rw [z] <;> decide
  have q := (Q_zone hI a1 a2).law hcx
  have F := fin3 hRA hRA hI hO (N_zone σ a1 a2) q.2.2.1 q.2.2.2 (I_zone hI a1 a2) (O_zone hO a1 a2)
  refine J_iload_5 X dL_law__316 ?_
  refine J_icmp_eq (tgt := 323) X dL_law__318 (by decide) (fun _ => ?_) (fun z => absurd q.1 z)
  refine J_iload_5 X dL_law__323 ?_
  have KE : J K (un h2x (un hm3 (one o (oc (kca K) (if X_zone_c σ a1 a2 = 0 then vp_updL g 0 (X_zone σ a1 a2).toInt64 else g))))) [some (.ref b), some (.ref (ρ 0 0)), some (.ref m), some (.ref o), some (.int (nI i)), some (.int (lawK (X_zone_c σ a1 a2) 1 0 0)), some (.int (M_zone σ a1 a2)), none] [] 340 (cells + 2) (slots + 12) := by
    refine J_goto (tgt := 2310) X dL_law__340 (by decide) ?_
    refine J.subL (lv' := [some (.ref b), some (.ref (ρ 0 0)), some (.ref m), some (.ref o), some (.int (nI i)), none, none, none]) ⟨rfl, rfl, rfl, rfl, rfl, trivial⟩ ?_
    exact J.widen (show cells + 2 ≤ cells + 8 by omega) (show slots + 12 ≤ slots + 148 by omega) (k _ _ _ _ ⟨F.1, ⟨ρm, hRM2⟩, F.2.1, F.2.2, b3, ap2, b4⟩)
  refine J_if_ne (tgt := 340) X dL_law__325 (by decide) (fun _ => KE) (fun z => ?_)
  have z0 : X_zone_c σ a1 a2 = 0 := by
    rcases C_zone (σ := σ) (p1 := a1) (p2 := a2) with w | w
    · exact w
    · rw [w] at z; exact absurd z (by decide)
  refine J_aload_3 X dL_law__328 ?_
  refine J_iconst (v := 0) X dL_law__329 rfl ?_
  refine J_lald' X (N := 1) (v := (X_zone σ a1 a2).toInt64) (un_out ap2 b4) vp01 (by rw [if_pos z0]; exact updL0 _ _) dL_law__330 ?_
  refine J_iload_6 X dL_law__331 ?_
  refine J_i2l X dL_law__333 ?_
  refine J_lcmp X dL_law__334 ?_
  exact J_if_eq (tgt := 340) X dL_law__335 (by decide) (fun _ => KE) (fun z => absurd (lg_eq (congrArg Int32.toInt64 (q.2.1 z0).symm)) z)
theorem LC_law {K : KT} {mn : String} {ret : Option FieldType} {tb : List ExceptionTableEntry} {w0 : Cond} {h0 : fH} {post : Option Value → fH → Prop} {px : String → fH → Prop} (X : JX K mn "NightValleyLaw" cL_law_ 8 ret tb w0 room_1 h0 post px) {b L i r m o : Nat} {xs : Nat → Int32} (S : LSc K b L i xs) : CASE K b r m o i 343 := by
  intro hx hm g σ cells slots hLI hc hs k
  obtain ⟨⟨ρ, μ, cap, hR, hr, hcap⟩, ⟨ρm, hRM⟩, hI, hO, h1, h2, h3⟩ := hLI
  subst hr
  obtain ⟨S1, S2, S3, S4, S5⟩ := S
  generalize e1 : xs (nI i + 1).toNatClampNeg = a1
  generalize e2 : xs (nI i + 2).toNatClampNeg = a2
  generalize e3 : xs (nI i + 3).toNatClampNeg = a3
  generalize e4 : xs (nI i + 4).toNatClampNeg = a4
  refine J_aload_1 X dL_law__343 ?_
  refine J_aload_0 X dL_law__344 ?_
  refine J_iload_4 X dL_law__345 ?_
  refine J_iconst (v := 1) X dL_law__347 rfl ?_
  refine J_iadd X dL_law__348 ?_
  refine J_sld X S1 S2 S3 (lin (j := 1) S5 S4 (by decide)) e1 dL_law__349 ?_
  refine J_aload_0 X dL_law__350 ?_
  refine J_iload_4 X dL_law__351 ?_
  refine J_iconst (v := 2) X dL_law__353 rfl ?_
  refine J_iadd X dL_law__354 ?_
  refine J_sld X S1 S2 S3 (lin (j := 2) S5 S4 (by decide)) e2 dL_law__355 ?_
  refine J_aload_0 X dL_law__356 ?_
  refine J_iload_4 X dL_law__357 ?_
  refine J_iconst (v := 3) X dL_law__359 rfl ?_
  refine J_iadd X dL_law__360 ?_
  refine J_sld X S1 S2 S3 (lin (j := 3) S5 S4 (by decide)) e3 dL_law__361 ?_
  refine J_aload_0 X dL_law__362 ?_
  refine J_iload_4 X dL_law__363 ?_
  refine J_iconst (v := 4) X dL_law__365 rfl ?_
  refine J_iadd X dL_law__366 ?_
  refine J_sld X S1 S2 S3 (lin (j := 4) S5 S4 (by decide)) e4 dL_law__367 ?_
  refine J_callSW X (fr_v (c_L_law hR hI hcap a1 a2 a3 a4) h1 h2 h3) (And.intro gw_2_145 cw_L_law) rfl (hroom2 (show cells + 4 ≤ 601024 by omega) (show slots + 24 ≤ 7293034 by omega)) (Nat.le_of_ble_eq_true rfl) dL_law__368 rfl (fun v h' e => ?_) (fun E h' e => e.elim)
  obtain ⟨h2x, ⟨e0, hRA⟩, ap1, ap2, e⟩ := e
  subst e0
  subst e
  show J K _ [some (.ref b), some (.ref (ρ 0 0)), some (.ref m), some (.ref o), some (.int (nI i)), none, none, none] [.int (lawK (X_law_c σ a1 a2 a3 a4) 1 2 0)] 371 (cells + 4) (slots + 24)
  refine J_istore_5 X dL_law__371 rfl (by decide) ?_
  refine J_aload_2 X dL_law__373 ?_
  refine J_aload_0 X dL_law__374 ?_
  refine J_iload_4 X dL_law__375 ?_
  refine J_iconst (v := 1) X dL_law__377 rfl ?_
  refine J_iadd X dL_law__378 ?_
  refine J_sld X S1 S2 S3 (lin (j := 1) S5 S4 (by decide)) e1 dL_law__379 ?_
  refine J_aload_0 X dL_law__380 ?_
  refine J_iload_4 X dL_law__381 ?_
  refine J_iconst (v := 2) X dL_law__383 rfl ?_
  refine J_iadd X dL_law__384 ?_
  refine J_sld X S1 S2 S3 (lin (j := 2) S5 S4 (by decide)) e2 dL_law__385 ?_
  refine J_aload_0 X dL_law__386 ?_
  refine J_iload_4 X dL_law__387 ?_
  refine J_iconst (v := 3) X dL_law__389 rfl ?_
  refine J_iadd X dL_law__390 ?_
  refine J_sld X S1 S2 S3 (lin (j := 3) S5 S4 (by decide)) e3 dL_law__391 ?_
  refine J_aload_0 X dL_law__392 ?_
  refine J_iload_4 X dL_law__393 ?_
  refine J_iconst (v := 4) X dL_law__395 rfl ?_
  refine J_iadd X dL_law__396 ?_
  refine J_sld X S1 S2 S3 (lin (j := 4) S5 S4 (by decide)) e4 dL_law__397 ?_
  refine J_callV X (fr_m (c_M_law hRM hI.1 a1 a2 a3 a4) ap1 ap2 h3) (And.intro gw_5_162 cw_X11_law) (un_mid_l ap1 hRM.1) rfl rfl (hroom2 (show cells + 4 ≤ 601024 by omega) (show slots + 24 ≤ 7293034 by omega)) (Nat.le_of_ble_eq_true rfl) dL_law__398 rfl (fun v h' e => ?_) (fun E h' e => e.elim)
  obtain ⟨hm2, ⟨e0, hRM2⟩, b1, b2, e⟩ := e
  subst e0
  subst e
  show J K _ [some (.ref b), some (.ref (ρ 0 0)), some (.ref m), some (.ref o), some (.int (nI i)), some (.int (lawK (X_law_c σ a1 a2 a3 a4) 1 2 0)), none, none] [] 401 (cells + 4) (slots + 24)
  refine J_aload_2 X dL_law__401 ?_
  refine J_callV X (fr_m (c_M_thrown hRM2) b1 ap2 b2) (And.intro gw_5_137 cw_X11_thrown) (un_mid_l b1 hRM2.1) rfl rfl (hroom2 (show cells + 4 ≤ 601024 by omega) (show slots + 24 ≤ 7293034 by omega)) (Nat.le_of_ble_eq_true rfl) dL_law__402 rfl (fun v h' e => ?_) (fun E h' e => e.elim)
  obtain ⟨hm3, ⟨e0, e4⟩, b3, b4, e⟩ := e
  subst e0
  subst e
  subst e4
  show J K _ [some (.ref b), some (.ref (ρ 0 0)), some (.ref m), some (.ref o), some (.int (nI i)), some (.int (lawK (X_law_c σ a1 a2 a3 a4) 1 2 0)), none, none] [.int (M_thrown (M_law_s σ a1 a2 a3 a4))] 405 (cells + 4) (slots + 24)
  have hcx : X_law_c σ a1 a2 a3 a4 = 0 ∨ X_law_c σ a1 a2 a3 a4 = 1 ∨ X_law_c σ a1 a2 a3 a4 = 2 ∨ X_law_c σ a1 a2 a3 a4 = 3 := by
    rcases C_law (σ := σ) (p1 := a1) (p2 := a2) (p3 := a3) (p4 := a4) with z | z | z <;> rw [z] <;> decide
  have q := (Q_law (σ := σ) a1 a2 a3 a4).law hcx
  have F := fin3 hRA hRA hI hO (N_law σ a1 a2 a3 a4) q.2.2.1 q.2.2.2 (I_law hI a1 a2 a3 a4) (O_law hO a1 a2 a3 a4)
  refine J_iload_5 X dL_law__405 ?_
  refine J_icmp_eq (tgt := 412) X dL_law__407 (by decide) (fun _ => ?_) (fun z => absurd q.1 z)
  refine J_goto (tgt := 2310) X dL_law__412 (by decide) ?_
  refine J.subL (lv' := [some (.ref b), some (.ref (ρ 0 0)), some (.ref m), some (.ref o), some (.int (nI i)), none, none, none]) ⟨rfl, rfl, rfl, rfl, rfl, trivial⟩ ?_
  exact J.widen (show cells + 4 ≤ cells + 8 by omega) (show slots + 24 ≤ slots + 148 by omega) (k _ _ _ _ ⟨F.1, ⟨ρm, hRM2⟩, F.2.1, F.2.2, b3, ap2, b4⟩)
theorem LC_feast {K : KT} {mn : String} {ret : Option FieldType} {tb : List ExceptionTableEntry} {w0 : Cond} {h0 : fH} {post : Option Value → fH → Prop} {px : String → fH → Prop} (X : JX K mn "NightValleyLaw" cL_law_ 8 ret tb w0 room_1 h0 post px) {b L i r m o : Nat} {xs : Nat → Int32} (S : LSc K b L i xs) : CASE K b r m o i 415 := by
  intro hx hm g σ cells slots hLI hc hs k
  obtain ⟨⟨ρ, μ, cap, hR, hr, hcap⟩, ⟨ρm, hRM⟩, hI, hO, h1, h2, h3⟩ := hLI
  subst hr
  obtain ⟨S1, S2, S3, S4, S5⟩ := S
  generalize e1 : xs (nI i + 1).toNatClampNeg = a1
  generalize e2 : xs (nI i + 2).toNatClampNeg = a2
  refine J_aload_1 X dL_law__415 ?_
  refine J_aload_0 X dL_law__416 ?_
  refine J_iload_4 X dL_law__417 ?_
  refine J_iconst (v := 1) X dL_law__419 rfl ?_
  refine J_iadd X dL_law__420 ?_
  refine J_sld X S1 S2 S3 (lin (j := 1) S5 S4 (by decide)) e1 dL_law__421 ?_
  refine J_aload_0 X dL_law__422 ?_
  refine J_iload_4 X dL_law__423 ?_
  refine J_iconst (v := 2) X dL_law__425 rfl ?_
  refine J_iadd X dL_law__426 ?_
  refine J_sld X S1 S2 S3 (lin (j := 2) S5 S4 (by decide)) e2 dL_law__427 ?_
  refine J_aload_3 X dL_law__428 ?_
  refine J_callSW X (fr_x (c_L_feast hR hI hcap a1 a2 h2) h1 h3) (And.intro gw_2_171 cw_L_feast) rfl (hroom2 (show cells + 2 ≤ 601024 by omega) (show slots + 12 ≤ 7293034 by omega)) (Nat.le_of_ble_eq_true rfl) dL_law__429 rfl (fun v h' e => ?_) (fun E h' e => e.elim)
  obtain ⟨e0, h2x, hRA, ap1, ap2, e⟩ := e
  subst e0
  subst e
  show J K _ [some (.ref b), some (.ref (ρ 0 0)), some (.ref m), some (.ref o), some (.int (nI i)), none, none, none] [.int (lawK (X_feast_c σ a1 a2) 1 2 0)] 432 (cells + 2) (slots + 12)
  refine J_istore_5 X dL_law__432 rfl (by decide) ?_
  refine J_aload_2 X dL_law__434 ?_
  refine J_aload_0 X dL_law__435 ?_
  refine J_iload_4 X dL_law__436 ?_
  refine J_iconst (v := 1) X dL_law__438 rfl ?_
  refine J_iadd X dL_law__439 ?_
  refine J_sld X S1 S2 S3 (lin (j := 1) S5 S4 (by decide)) e1 dL_law__440 ?_
  refine J_aload_0 X dL_law__441 ?_
  refine J_iload_4 X dL_law__442 ?_
  refine J_iconst (v := 2) X dL_law__444 rfl ?_
  refine J_iadd X dL_law__445 ?_
  refine J_sld X S1 S2 S3 (lin (j := 2) S5 S4 (by decide)) e2 dL_law__446 ?_
  refine J_callV X (fr_m (c_M_feast hRM hI.1 a1 a2) ap1 ap2 h3) (And.intro gw_5_166 cw_X11_feast) (un_mid_l ap1 hRM.1) rfl rfl (hroom2 (show cells + 2 ≤ 601024 by omega) (show slots + 12 ≤ 7293034 by omega)) (Nat.le_of_ble_eq_true rfl) dL_law__447 rfl (fun v h' e => ?_) (fun E h' e => e.elim)
  obtain ⟨hm2, ⟨e0, hRM2⟩, b1, b2, e⟩ := e
  subst e0
  subst e
  show J K _ [some (.ref b), some (.ref (ρ 0 0)), some (.ref m), some (.ref o), some (.int (nI i)), some (.int (lawK (X_feast_c σ a1 a2) 1 2 0)), none, none] [.int (M_feast σ a1 a2)] 450 (cells + 2) (slots + 12)
  refine J_istore_6 X dL_law__450 rfl (by decide) ?_
  refine J_aload_2 X dL_law__452 ?_
  refine J_callV X (fr_m (c_M_thrown hRM2) b1 ap2 b2) (And.intro gw_5_137 cw_X11_thrown) (un_mid_l b1 hRM2.1) rfl rfl (hroom2 (show cells + 2 ≤ 601024 by omega) (show slots + 12 ≤ 7293034 by omega)) (Nat.le_of_ble_eq_true rfl) dL_law__453 rfl (fun v h' e => ?_) (fun E h' e => e.elim)
  obtain ⟨hm3, ⟨e0, e4⟩, b3, b4, e⟩ := e
  subst e0
  subst e
  subst e4
  show J K _ [some (.ref b), some (.ref (ρ 0 0)), some (.ref m), some (.ref o), some (.int (nI i)), some (.int (lawK (X_feast_c σ a1 a2) 1 2 0)), some (.int (M_feast σ a1 a2)), none] [.int (M_thrown (M_feast_s σ a1 a2))] 456 (cells + 2) (slots + 12)
  have hcx : X_feast_c σ a1 a2 = 0 ∨ X_feast_c σ a1 a2 = 1 ∨ X_feast_c σ a1 a2 = 2 ∨ X_feast_c σ a1 a2 = 3 := by
    rcases C_feast (σ := σ) (p1 := a1) (p2 := a2) with z | z | z <;> rw [z] <;> decide
  have q := (Q_feast hI a1 a2).law hcx
  have F := fin3 hRA hRA hI hO (N_feast σ a1 a2) q.2.2.1 q.2.2.2 (I_feast hI a1 a2) (O_feast hO a1 a2)
  refine J_iload_5 X dL_law__456 ?_
  refine J_icmp_eq (tgt := 463) X dL_law__458 (by decide) (fun _ => ?_) (fun z => absurd q.1 z)
  refine J_iload_5 X dL_law__463 ?_
  have KE : J K (un h2x (un hm3 (one o (oc (kca K) (if X_feast_c σ a1 a2 = 0 then vp_updL g 0 (X_feast σ a1 a2).toInt64 else g))))) [some (.ref b), some (.ref (ρ 0 0)), some (.ref m), some (.ref o), some (.int (nI i)), some (.int (lawK (X_feast_c σ a1 a2) 1 2 0)), some (.int (M_feast σ a1 a2)), none] [] 480 (cells + 2) (slots + 12) := by
    refine J_goto (tgt := 2310) X dL_law__480 (by decide) ?_
    refine J.subL (lv' := [some (.ref b), some (.ref (ρ 0 0)), some (.ref m), some (.ref o), some (.int (nI i)), none, none, none]) ⟨rfl, rfl, rfl, rfl, rfl, trivial⟩ ?_
    exact J.widen (show cells + 2 ≤ cells + 8 by omega) (show slots + 12 ≤ slots + 148 by omega) (k _ _ _ _ ⟨F.1, ⟨ρm, hRM2⟩, F.2.1, F.2.2, b3, ap2, b4⟩)
  refine J_if_ne (tgt := 480) X dL_law__465 (by decide) (fun _ => KE) (fun z => ?_)
  have z0 : X_feast_c σ a1 a2 = 0 := by
    rcases C_feast (σ := σ) (p1 := a1) (p2 := a2) with w | w | w
    · exact w
    · rw [w] at z; exact absurd z (by decide)
    · rw [w] at z; exact absurd z (by decide)
  refine J_aload_3 X dL_law__468 ?_
  refine J_iconst (v := 0) X dL_law__469 rfl ?_
  refine J_lald' X (N := 1) (v := (X_feast σ a1 a2).toInt64) (un_out ap2 b4) vp01 (by rw [if_pos z0]; exact updL0 _ _) dL_law__470 ?_
  refine J_iload_6 X dL_law__471 ?_
  refine J_i2l X dL_law__473 ?_
  refine J_lcmp X dL_law__474 ?_
  exact J_if_eq (tgt := 480) X dL_law__475 (by decide) (fun _ => KE) (fun z => absurd (lg_eq (congrArg Int32.toInt64 (q.2.1 z0).symm)) z)
theorem LC_air {K : KT} {mn : String} {ret : Option FieldType} {tb : List ExceptionTableEntry} {w0 : Cond} {h0 : fH} {post : Option Value → fH → Prop} {px : String → fH → Prop} (X : JX K mn "NightValleyLaw" cL_law_ 8 ret tb w0 room_1 h0 post px) {b L i r m o : Nat} {xs : Nat → Int32} (S : LSc K b L i xs) : CASE K b r m o i 483 := by
  intro hx hm g σ cells slots hLI hc hs k
  obtain ⟨⟨ρ, μ, cap, hR, hr, hcap⟩, ⟨ρm, hRM⟩, hI, hO, h1, h2, h3⟩ := hLI
  subst hr
  obtain ⟨S1, S2, S3, S4, S5⟩ := S
  generalize e1 : xs (nI i + 1).toNatClampNeg = a1
  refine J_aload_1 X dL_law__483 ?_
  refine J_aload_0 X dL_law__484 ?_
  refine J_iload_4 X dL_law__485 ?_
  refine J_iconst (v := 1) X dL_law__487 rfl ?_
  refine J_iadd X dL_law__488 ?_
  refine J_sld X S1 S2 S3 (lin (j := 1) S5 S4 (by decide)) e1 dL_law__489 ?_
  refine J_aload_3 X dL_law__490 ?_
  refine J_callSW X (fr_x (c_L_air hR hI hcap a1 h2) h1 h3) (And.intro gw_2_182 cw_L_air) rfl (hroom2 (show cells + 1 ≤ 601024 by omega) (show slots + 6 ≤ 7293034 by omega)) (Nat.le_of_ble_eq_true rfl) dL_law__491 rfl (fun v h' e => ?_) (fun E h' e => e.elim)
  obtain ⟨e0, h2x, hRA, ap1, ap2, e⟩ := e
  subst e0
  subst e
  show J K _ [some (.ref b), some (.ref (ρ 0 0)), some (.ref m), some (.ref o), some (.int (nI i)), none, none, none] [.int (lawK (X_air_c σ a1) 0 1 0)] 494 (cells + 1) (slots + 6)
  refine J_istore_5 X dL_law__494 rfl (by decide) ?_
  refine J_aload_2 X dL_law__496 ?_
  refine J_aload_0 X dL_law__497 ?_
  refine J_iload_4 X dL_law__498 ?_
  refine J_iconst (v := 1) X dL_law__500 rfl ?_
  refine J_iadd X dL_law__501 ?_
  refine J_sld X S1 S2 S3 (lin (j := 1) S5 S4 (by decide)) e1 dL_law__502 ?_
  refine J_callV X (fr_m (c_M_air hRM hI.1 a1) ap1 ap2 h3) (And.intro gw_5_170 cw_X11_air) (un_mid_l ap1 hRM.1) rfl rfl (hroom2 (show cells + 1 ≤ 601024 by omega) (show slots + 6 ≤ 7293034 by omega)) (Nat.le_of_ble_eq_true rfl) dL_law__503 rfl (fun v h' e => ?_) (fun E h' e => e.elim)
  obtain ⟨hm2, ⟨e0, hRM2⟩, b1, b2, e⟩ := e
  subst e0
  subst e
  show J K _ [some (.ref b), some (.ref (ρ 0 0)), some (.ref m), some (.ref o), some (.int (nI i)), some (.int (lawK (X_air_c σ a1) 0 1 0)), none, none] [.int (M_air σ a1)] 506 (cells + 1) (slots + 6)
  refine J_istore_6 X dL_law__506 rfl (by decide) ?_
  refine J_aload_2 X dL_law__508 ?_
  refine J_callV X (fr_m (c_M_thrown hRM2) b1 ap2 b2) (And.intro gw_5_137 cw_X11_thrown) (un_mid_l b1 hRM2.1) rfl rfl (hroom2 (show cells + 1 ≤ 601024 by omega) (show slots + 6 ≤ 7293034 by omega)) (Nat.le_of_ble_eq_true rfl) dL_law__509 rfl (fun v h' e => ?_) (fun E h' e => e.elim)
  obtain ⟨hm3, ⟨e0, e4⟩, b3, b4, e⟩ := e
  subst e0
  subst e
  subst e4
  show J K _ [some (.ref b), some (.ref (ρ 0 0)), some (.ref m), some (.ref o), some (.int (nI i)), some (.int (lawK (X_air_c σ a1) 0 1 0)), some (.int (M_air σ a1)), none] [.int (M_thrown (M_air_s σ a1))] 512 (cells + 1) (slots + 6)
  have hcx : X_air_c σ a1 = 0 ∨ X_air_c σ a1 = 1 ∨ X_air_c σ a1 = 2 ∨ X_air_c σ a1 = 3 := by
    rcases C_air (σ := σ) (p1 := a1) with z | z <;> rw [z] <;> decide
  have q := (Q_air σ a1).law hcx
  have F := fin3 hRA hRA hI hO (N_air σ a1) q.2.2.1 q.2.2.2 (I_air hI a1) (O_air hO a1)
  refine J_iload_5 X dL_law__512 ?_
  refine J_icmp_eq (tgt := 519) X dL_law__514 (by decide) (fun _ => ?_) (fun z => absurd q.1 z)
  refine J_iload_5 X dL_law__519 ?_
  have KE : J K (un h2x (un hm3 (one o (oc (kca K) (if X_air_c σ a1 = 0 then vp_updL g 0 (X_air σ a1).toInt64 else g))))) [some (.ref b), some (.ref (ρ 0 0)), some (.ref m), some (.ref o), some (.int (nI i)), some (.int (lawK (X_air_c σ a1) 0 1 0)), some (.int (M_air σ a1)), none] [] 536 (cells + 1) (slots + 6) := by
    refine J_goto (tgt := 2310) X dL_law__536 (by decide) ?_
    refine J.subL (lv' := [some (.ref b), some (.ref (ρ 0 0)), some (.ref m), some (.ref o), some (.int (nI i)), none, none, none]) ⟨rfl, rfl, rfl, rfl, rfl, trivial⟩ ?_
    exact J.widen (show cells + 1 ≤ cells + 8 by omega) (show slots + 6 ≤ slots + 148 by omega) (k _ _ _ _ ⟨F.1, ⟨ρm, hRM2⟩, F.2.1, F.2.2, b3, ap2, b4⟩)
  refine J_if_ne (tgt := 536) X dL_law__521 (by decide) (fun _ => KE) (fun z => ?_)
  have z0 : X_air_c σ a1 = 0 := by
    rcases C_air (σ := σ) (p1 := a1) with w | w
    · exact w
    · rw [w] at z; exact absurd z (by decide)
  refine J_aload_3 X dL_law__524 ?_
  refine J_iconst (v := 0) X dL_law__525 rfl ?_
  refine J_lald' X (N := 1) (v := (X_air σ a1).toInt64) (un_out ap2 b4) vp01 (by rw [if_pos z0]; exact updL0 _ _) dL_law__526 ?_
  refine J_iload_6 X dL_law__527 ?_
  refine J_i2l X dL_law__529 ?_
  refine J_lcmp X dL_law__530 ?_
  exact J_if_eq (tgt := 536) X dL_law__531 (by decide) (fun _ => KE) (fun z => absurd (lg_eq (congrArg Int32.toInt64 (q.2.1 z0).symm)) z)
theorem LC_pass {K : KT} {mn : String} {ret : Option FieldType} {tb : List ExceptionTableEntry} {w0 : Cond} {h0 : fH} {post : Option Value → fH → Prop} {px : String → fH → Prop} (X : JX K mn "NightValleyLaw" cL_law_ 8 ret tb w0 room_1 h0 post px) {b L i r m o : Nat} {xs : Nat → Int32} (S : LSc K b L i xs) : CASE K b r m o i 539 := by
  intro hx hm g σ cells slots hLI hc hs k
  obtain ⟨⟨ρ, μ, cap, hR, hr, hcap⟩, ⟨ρm, hRM⟩, hI, hO, h1, h2, h3⟩ := hLI
  subst hr
  obtain ⟨S1, S2, S3, S4, S5⟩ := S
  generalize e1 : xs (nI i + 1).toNatClampNeg = a1
  refine J_aload_1 X dL_law__539 ?_
  refine J_aload_0 X dL_law__540 ?_
  refine J_iload_4 X dL_law__541 ?_
  refine J_iconst (v := 1) X dL_law__543 rfl ?_
  refine J_iadd X dL_law__544 ?_
  refine J_sld X S1 S2 S3 (lin (j := 1) S5 S4 (by decide)) e1 dL_law__545 ?_
  refine J_aload_3 X dL_law__546 ?_
  refine J_callSW X (fr_x (c_L_pass hR hI hcap a1 h2) h1 h3) (And.intro gw_2_189 cw_L_pass) rfl (hroom2 (show cells + 2 ≤ 601024 by omega) (show slots + 12 ≤ 7293034 by omega)) (Nat.le_of_ble_eq_true rfl) dL_law__547 rfl (fun v h' e => ?_) (fun E h' e => e.elim)
  obtain ⟨e0, h2x, hRA, ap1, ap2, e⟩ := e
  subst e0
  subst e
  show J K _ [some (.ref b), some (.ref (ρ 0 0)), some (.ref m), some (.ref o), some (.int (nI i)), none, none, none] [.int (lawK (X_pass_c σ a1) 0 1 2)] 550 (cells + 2) (slots + 12)
  refine J_istore_5 X dL_law__550 rfl (by decide) ?_
  refine J_aload_2 X dL_law__552 ?_
  refine J_aload_0 X dL_law__553 ?_
  refine J_iload_4 X dL_law__554 ?_
  refine J_iconst (v := 1) X dL_law__556 rfl ?_
  refine J_iadd X dL_law__557 ?_
  refine J_sld X S1 S2 S3 (lin (j := 1) S5 S4 (by decide)) e1 dL_law__558 ?_
  refine J_callV X (fr_m (c_M_pass hRM hI.1 a1) ap1 ap2 h3) (And.intro gw_5_174 cw_X11_pass) (un_mid_l ap1 hRM.1) rfl rfl (hroom2 (show cells + 2 ≤ 601024 by omega) (show slots + 12 ≤ 7293034 by omega)) (Nat.le_of_ble_eq_true rfl) dL_law__559 rfl (fun v h' e => ?_) (fun E h' e => e.elim)
  obtain ⟨hm2, ⟨e0, hRM2⟩, b1, b2, e⟩ := e
  subst e0
  subst e
  show J K _ [some (.ref b), some (.ref (ρ 0 0)), some (.ref m), some (.ref o), some (.int (nI i)), some (.int (lawK (X_pass_c σ a1) 0 1 2)), none, none] [.int (M_pass σ a1)] 562 (cells + 2) (slots + 12)
  refine J_istore_6 X dL_law__562 rfl (by decide) ?_
  refine J_aload_2 X dL_law__564 ?_
  refine J_callV X (fr_m (c_M_thrown hRM2) b1 ap2 b2) (And.intro gw_5_137 cw_X11_thrown) (un_mid_l b1 hRM2.1) rfl rfl (hroom2 (show cells + 2 ≤ 601024 by omega) (show slots + 12 ≤ 7293034 by omega)) (Nat.le_of_ble_eq_true rfl) dL_law__565 rfl (fun v h' e => ?_) (fun E h' e => e.elim)
  obtain ⟨hm3, ⟨e0, e4⟩, b3, b4, e⟩ := e
  subst e0
  subst e
  subst e4
  show J K _ [some (.ref b), some (.ref (ρ 0 0)), some (.ref m), some (.ref o), some (.int (nI i)), some (.int (lawK (X_pass_c σ a1) 0 1 2)), some (.int (M_pass σ a1)), none] [.int (M_thrown (M_pass_s σ a1))] 568 (cells + 2) (slots + 12)
  have hcx : X_pass_c σ a1 = 0 ∨ X_pass_c σ a1 = 1 ∨ X_pass_c σ a1 = 2 ∨ X_pass_c σ a1 = 3 := by
    rcases C_pass (σ := σ) (p1 := a1) with z | z | z <;> rw [z] <;> decide
  have q := ((Q_pass hI a1).1).law hcx
  have F := fin3 hRA hRA hI hO (N_pass σ a1) q.2.2.1 q.2.2.2 (Q_pass hI a1).2 (O_pass hI hO a1)
  refine J_iload_5 X dL_law__568 ?_
  refine J_icmp_eq (tgt := 575) X dL_law__570 (by decide) (fun _ => ?_) (fun z => absurd q.1 z)
  refine J_iload_5 X dL_law__575 ?_
  have KE : J K (un h2x (un hm3 (one o (oc (kca K) (if X_pass_c σ a1 = 0 then vp_updL g 0 (X_pass σ a1).toInt64 else g))))) [some (.ref b), some (.ref (ρ 0 0)), some (.ref m), some (.ref o), some (.int (nI i)), some (.int (lawK (X_pass_c σ a1) 0 1 2)), some (.int (M_pass σ a1)), none] [] 592 (cells + 2) (slots + 12) := by
    refine J_goto (tgt := 2310) X dL_law__592 (by decide) ?_
    refine J.subL (lv' := [some (.ref b), some (.ref (ρ 0 0)), some (.ref m), some (.ref o), some (.int (nI i)), none, none, none]) ⟨rfl, rfl, rfl, rfl, rfl, trivial⟩ ?_
    exact J.widen (show cells + 2 ≤ cells + 8 by omega) (show slots + 12 ≤ slots + 148 by omega) (k _ _ _ _ ⟨F.1, ⟨ρm, hRM2⟩, F.2.1, F.2.2, b3, ap2, b4⟩)
  refine J_if_ne (tgt := 592) X dL_law__577 (by decide) (fun _ => KE) (fun z => ?_)
  have z0 : X_pass_c σ a1 = 0 := by
    rcases C_pass (σ := σ) (p1 := a1) with w | w | w
    · exact w
    · rw [w] at z; exact absurd z (by decide)
    · rw [w] at z; exact absurd z (by decide)
  refine J_aload_3 X dL_law__580 ?_
  refine J_iconst (v := 0) X dL_law__581 rfl ?_
  refine J_lald' X (N := 1) (v := (X_pass σ a1).toInt64) (un_out ap2 b4) vp01 (by rw [if_pos z0]; exact updL0 _ _) dL_law__582 ?_
  refine J_iload_6 X dL_law__583 ?_
  refine J_i2l X dL_law__585 ?_
  refine J_lcmp X dL_law__586 ?_
  exact J_if_eq (tgt := 592) X dL_law__587 (by decide) (fun _ => KE) (fun z => absurd (lg_eq (congrArg Int32.toInt64 (q.2.1 z0).symm)) z)
theorem LC_village {K : KT} {mn : String} {ret : Option FieldType} {tb : List ExceptionTableEntry} {w0 : Cond} {h0 : fH} {post : Option Value → fH → Prop} {px : String → fH → Prop} (X : JX K mn "NightValleyLaw" cL_law_ 8 ret tb w0 room_1 h0 post px) {b L i r m o : Nat} {xs : Nat → Int32} (S : LSc K b L i xs) : CASE K b r m o i 595 := by
  intro hx hm g σ cells slots hLI hc hs k
  obtain ⟨⟨ρ, μ, cap, hR, hr, hcap⟩, ⟨ρm, hRM⟩, hI, hO, h1, h2, h3⟩ := hLI
  subst hr
  obtain ⟨S1, S2, S3, S4, S5⟩ := S
  generalize e1 : xs (nI i + 1).toNatClampNeg = a1
  generalize e2 : xs (nI i + 2).toNatClampNeg = a2
  refine J_aload_1 X dL_law__595 ?_
  refine J_aload_0 X dL_law__596 ?_
  refine J_iload_4 X dL_law__597 ?_
  refine J_iconst (v := 1) X dL_law__599 rfl ?_
  refine J_iadd X dL_law__600 ?_
  refine J_sld X S1 S2 S3 (lin (j := 1) S5 S4 (by decide)) e1 dL_law__601 ?_
  refine J_aload_0 X dL_law__602 ?_
  refine J_iload_4 X dL_law__603 ?_
  refine J_iconst (v := 2) X dL_law__605 rfl ?_
  refine J_iadd X dL_law__606 ?_
  refine J_sld X S1 S2 S3 (lin (j := 2) S5 S4 (by decide)) e2 dL_law__607 ?_
  refine J_aload_3 X dL_law__608 ?_
  refine J_callSW X (fr_x (c_L_village hR hI hcap a1 a2 h2) h1 h3) (And.intro gw_2_236 cw_L_village) rfl (hroom2 (show cells + 5 ≤ 601024 by omega) (show slots + 123 ≤ 7293034 by omega)) (Nat.le_of_ble_eq_true rfl) dL_law__609 rfl (fun v h' e => ?_) (fun E h' e => e.elim)
  obtain ⟨e0, h2x, hRA, ap1, ap2, e⟩ := e
  subst e0
  subst e
  show J K _ [some (.ref b), some (.ref (ρ 0 0)), some (.ref m), some (.ref o), some (.int (nI i)), none, none, none] [.int (lawK (X_village_c σ a1 a2) 0 1 2)] 612 (cells + 5) (slots + 123)
  refine J_istore_5 X dL_law__612 rfl (by decide) ?_
  refine J_aload_2 X dL_law__614 ?_
  refine J_aload_0 X dL_law__615 ?_
  refine J_iload_4 X dL_law__616 ?_
  refine J_iconst (v := 1) X dL_law__618 rfl ?_
  refine J_iadd X dL_law__619 ?_
  refine J_sld X S1 S2 S3 (lin (j := 1) S5 S4 (by decide)) e1 dL_law__620 ?_
  refine J_aload_0 X dL_law__621 ?_
  refine J_iload_4 X dL_law__622 ?_
  refine J_iconst (v := 2) X dL_law__624 rfl ?_
  refine J_iadd X dL_law__625 ?_
  refine J_sld X S1 S2 S3 (lin (j := 2) S5 S4 (by decide)) e2 dL_law__626 ?_
  refine J_callV X (fr_m (c_M_village hRM hI.1 a1 a2) ap1 ap2 h3) (And.intro gw_5_182 cw_X11_village) (un_mid_l ap1 hRM.1) rfl rfl (hroom2 (show cells + 5 ≤ 601024 by omega) (show slots + 123 ≤ 7293034 by omega)) (Nat.le_of_ble_eq_true rfl) dL_law__627 rfl (fun v h' e => ?_) (fun E h' e => e.elim)
  obtain ⟨hm2, ⟨e0, hRM2⟩, b1, b2, e⟩ := e
  subst e0
  subst e
  show J K _ [some (.ref b), some (.ref (ρ 0 0)), some (.ref m), some (.ref o), some (.int (nI i)), some (.int (lawK (X_village_c σ a1 a2) 0 1 2)), none, none] [.int (M_village σ a1 a2)] 630 (cells + 5) (slots + 123)
  refine J_istore_6 X dL_law__630 rfl (by decide) ?_
  refine J_aload_2 X dL_law__632 ?_
  refine J_callV X (fr_m (c_M_thrown hRM2) b1 ap2 b2) (And.intro gw_5_137 cw_X11_thrown) (un_mid_l b1 hRM2.1) rfl rfl (hroom2 (show cells + 5 ≤ 601024 by omega) (show slots + 123 ≤ 7293034 by omega)) (Nat.le_of_ble_eq_true rfl) dL_law__633 rfl (fun v h' e => ?_) (fun E h' e => e.elim)
  obtain ⟨hm3, ⟨e0, e4⟩, b3, b4, e⟩ := e
  subst e0
  subst e
  subst e4
  show J K _ [some (.ref b), some (.ref (ρ 0 0)), some (.ref m), some (.ref o), some (.int (nI i)), some (.int (lawK (X_village_c σ a1 a2) 0 1 2)), some (.int (M_village σ a1 a2)), none] [.int (M_thrown (M_village_s σ a1 a2))] 636 (cells + 5) (slots + 123)
  have hcx : X_village_c σ a1 a2 = 0 ∨ X_village_c σ a1 a2 = 1 ∨ X_village_c σ a1 a2 = 2 ∨ X_village_c σ a1 a2 = 3 := by
    rcases C_village (σ := σ) (p1 := a1) (p2 := a2) with z | z | z <;> rw [z] <;> decide
  have q := ((Q_village hI hO a1 a2).1).law hcx
  have F := fin3 hRA hRA hI hO (N_village σ a1 a2) q.2.2.1 q.2.2.2 (Q_village hI hO a1 a2).2.1 (Q_village hI hO a1 a2).2.2
  refine J_iload_5 X dL_law__636 ?_
  refine J_icmp_eq (tgt := 643) X dL_law__638 (by decide) (fun _ => ?_) (fun z => absurd q.1 z)
  refine J_iload_5 X dL_law__643 ?_
  have KE : J K (un h2x (un hm3 (one o (oc (kca K) (if X_village_c σ a1 a2 = 0 then vp_updL g 0 (X_village σ a1 a2).toInt64 else g))))) [some (.ref b), some (.ref (ρ 0 0)), some (.ref m), some (.ref o), some (.int (nI i)), some (.int (lawK (X_village_c σ a1 a2) 0 1 2)), some (.int (M_village σ a1 a2)), none] [] 660 (cells + 5) (slots + 123) := by
    refine J_goto (tgt := 2310) X dL_law__660 (by decide) ?_
    refine J.subL (lv' := [some (.ref b), some (.ref (ρ 0 0)), some (.ref m), some (.ref o), some (.int (nI i)), none, none, none]) ⟨rfl, rfl, rfl, rfl, rfl, trivial⟩ ?_
    exact J.widen (show cells + 5 ≤ cells + 8 by omega) (show slots + 123 ≤ slots + 148 by omega) (k _ _ _ _ ⟨F.1, ⟨ρm, hRM2⟩, F.2.1, F.2.2, b3, ap2, b4⟩)
  refine J_if_ne (tgt := 660) X dL_law__645 (by decide) (fun _ => KE) (fun z => ?_)
  have z0 : X_village_c σ a1 a2 = 0 := by
    rcases C_village (σ := σ) (p1 := a1) (p2 := a2) with w | w | w
    · exact w
    · rw [w] at z; exact absurd z (by decide)
    · rw [w] at z; exact absurd z (by decide)
  refine J_aload_3 X dL_law__648 ?_
  refine J_iconst (v := 0) X dL_law__649 rfl ?_
  refine J_lald' X (N := 1) (v := (X_village σ a1 a2).toInt64) (un_out ap2 b4) vp01 (by rw [if_pos z0]; exact updL0 _ _) dL_law__650 ?_
  refine J_iload_6 X dL_law__651 ?_
  refine J_i2l X dL_law__653 ?_
  refine J_lcmp X dL_law__654 ?_
  exact J_if_eq (tgt := 660) X dL_law__655 (by decide) (fun _ => KE) (fun z => absurd (lg_eq (congrArg Int32.toInt64 (q.2.1 z0).symm)) z)
theorem LC_lamp {K : KT} {mn : String} {ret : Option FieldType} {tb : List ExceptionTableEntry} {w0 : Cond} {h0 : fH} {post : Option Value → fH → Prop} {px : String → fH → Prop} (X : JX K mn "NightValleyLaw" cL_law_ 8 ret tb w0 room_1 h0 post px) {b L i r m o : Nat} {xs : Nat → Int32} (S : LSc K b L i xs) : CASE K b r m o i 663 := by
  intro hx hm g σ cells slots hLI hc hs k
  obtain ⟨⟨ρ, μ, cap, hR, hr, hcap⟩, ⟨ρm, hRM⟩, hI, hO, h1, h2, h3⟩ := hLI
  subst hr
  obtain ⟨S1, S2, S3, S4, S5⟩ := S
  generalize e1 : xs (nI i + 1).toNatClampNeg = a1
  generalize e2 : xs (nI i + 2).toNatClampNeg = a2
  generalize e3 : xs (nI i + 3).toNatClampNeg = a3
  generalize e4 : xs (nI i + 4).toNatClampNeg = a4
  generalize e5 : xs (nI i + 5).toNatClampNeg = a5
  refine J_aload_1 X dL_law__663 ?_
  refine J_aload_0 X dL_law__664 ?_
  refine J_iload_4 X dL_law__665 ?_
  refine J_iconst (v := 1) X dL_law__667 rfl ?_
  refine J_iadd X dL_law__668 ?_
  refine J_sld X S1 S2 S3 (lin (j := 1) S5 S4 (by decide)) e1 dL_law__669 ?_
  refine J_aload_0 X dL_law__670 ?_
  refine J_iload_4 X dL_law__671 ?_
  refine J_iconst (v := 2) X dL_law__673 rfl ?_
  refine J_iadd X dL_law__674 ?_
  refine J_sld X S1 S2 S3 (lin (j := 2) S5 S4 (by decide)) e2 dL_law__675 ?_
  refine J_aload_0 X dL_law__676 ?_
  refine J_iload_4 X dL_law__677 ?_
  refine J_iconst (v := 3) X dL_law__679 rfl ?_
  refine J_iadd X dL_law__680 ?_
  refine J_sld X S1 S2 S3 (lin (j := 3) S5 S4 (by decide)) e3 dL_law__681 ?_
  refine J_aload_0 X dL_law__682 ?_
  refine J_iload_4 X dL_law__683 ?_
  refine J_iconst (v := 4) X dL_law__685 rfl ?_
  refine J_iadd X dL_law__686 ?_
  refine J_sld X S1 S2 S3 (lin (j := 4) S5 S4 (by decide)) e4 dL_law__687 ?_
  refine J_aload_0 X dL_law__688 ?_
  refine J_iload_4 X dL_law__689 ?_
  refine J_iconst (v := 5) X dL_law__691 rfl ?_
  refine J_iadd X dL_law__692 ?_
  refine J_sld X S1 S2 S3 (lin (j := 5) S5 S4 (by decide)) e5 dL_law__693 ?_
  refine J_aload_3 X dL_law__694 ?_
  refine J_callSW X (fr_x (c_L_lamp hR hI hcap a1 a2 a3 a4 a5 h2) h1 h3) (And.intro gw_3_28 cw_L_lamp) rfl (hroom2 (show cells + 8 ≤ 601024 by omega) (show slots + 148 ≤ 7293034 by omega)) (Nat.le_of_ble_eq_true rfl) dL_law__695 rfl (fun v h' e => ?_) (fun E h' e => e.elim)
  obtain ⟨e0, h2x, hRA, ap1, ap2, e⟩ := e
  subst e0
  subst e
  show J K _ [some (.ref b), some (.ref (ρ 0 0)), some (.ref m), some (.ref o), some (.int (nI i)), none, none, none] [.int (lawK (X_lamp_c σ a1 a2 a3 a4 a5) 1 2 3)] 698 (cells + 8) (slots + 148)
  refine J_istore_5 X dL_law__698 rfl (by decide) ?_
  refine J_aload_2 X dL_law__700 ?_
  refine J_aload_0 X dL_law__701 ?_
  refine J_iload_4 X dL_law__702 ?_
  refine J_iconst (v := 1) X dL_law__704 rfl ?_
  refine J_iadd X dL_law__705 ?_
  refine J_sld X S1 S2 S3 (lin (j := 1) S5 S4 (by decide)) e1 dL_law__706 ?_
  refine J_aload_0 X dL_law__707 ?_
  refine J_iload_4 X dL_law__708 ?_
  refine J_iconst (v := 2) X dL_law__710 rfl ?_
  refine J_iadd X dL_law__711 ?_
  refine J_sld X S1 S2 S3 (lin (j := 2) S5 S4 (by decide)) e2 dL_law__712 ?_
  refine J_aload_0 X dL_law__713 ?_
  refine J_iload_4 X dL_law__714 ?_
  refine J_iconst (v := 3) X dL_law__716 rfl ?_
  refine J_iadd X dL_law__717 ?_
  refine J_sld X S1 S2 S3 (lin (j := 3) S5 S4 (by decide)) e3 dL_law__718 ?_
  refine J_aload_0 X dL_law__719 ?_
  refine J_iload_4 X dL_law__720 ?_
  refine J_iconst (v := 4) X dL_law__722 rfl ?_
  refine J_iadd X dL_law__723 ?_
  refine J_sld X S1 S2 S3 (lin (j := 4) S5 S4 (by decide)) e4 dL_law__724 ?_
  refine J_aload_0 X dL_law__725 ?_
  refine J_iload_4 X dL_law__726 ?_
  refine J_iconst (v := 5) X dL_law__728 rfl ?_
  refine J_iadd X dL_law__729 ?_
  refine J_sld X S1 S2 S3 (lin (j := 5) S5 S4 (by decide)) e5 dL_law__730 ?_
  refine J_callV X (fr_m (c_M_lamp hRM hI.1 a1 a2 a3 a4 a5) ap1 ap2 h3) (And.intro gw_5_186 cw_X11_lamp) (un_mid_l ap1 hRM.1) rfl rfl (hroom2 (show cells + 8 ≤ 601024 by omega) (show slots + 148 ≤ 7293034 by omega)) (Nat.le_of_ble_eq_true rfl) dL_law__731 rfl (fun v h' e => ?_) (fun E h' e => e.elim)
  obtain ⟨hm2, ⟨e0, hRM2⟩, b1, b2, e⟩ := e
  subst e0
  subst e
  show J K _ [some (.ref b), some (.ref (ρ 0 0)), some (.ref m), some (.ref o), some (.int (nI i)), some (.int (lawK (X_lamp_c σ a1 a2 a3 a4 a5) 1 2 3)), none, none] [.int (M_lamp σ a1 a2 a3 a4 a5)] 734 (cells + 8) (slots + 148)
  refine J_istore_6 X dL_law__734 rfl (by decide) ?_
  refine J_aload_2 X dL_law__736 ?_
  refine J_callV X (fr_m (c_M_thrown hRM2) b1 ap2 b2) (And.intro gw_5_137 cw_X11_thrown) (un_mid_l b1 hRM2.1) rfl rfl (hroom2 (show cells + 8 ≤ 601024 by omega) (show slots + 148 ≤ 7293034 by omega)) (Nat.le_of_ble_eq_true rfl) dL_law__737 rfl (fun v h' e => ?_) (fun E h' e => e.elim)
  obtain ⟨hm3, ⟨e0, e4⟩, b3, b4, e⟩ := e
  subst e0
  subst e
  subst e4
  show J K _ [some (.ref b), some (.ref (ρ 0 0)), some (.ref m), some (.ref o), some (.int (nI i)), some (.int (lawK (X_lamp_c σ a1 a2 a3 a4 a5) 1 2 3)), some (.int (M_lamp σ a1 a2 a3 a4 a5)), none] [.int (M_thrown (M_lamp_s σ a1 a2 a3 a4 a5))] 740 (cells + 8) (slots + 148)
  have hcx : X_lamp_c σ a1 a2 a3 a4 a5 = 0 ∨ X_lamp_c σ a1 a2 a3 a4 a5 = 1 ∨ X_lamp_c σ a1 a2 a3 a4 a5 = 2 ∨ X_lamp_c σ a1 a2 a3 a4 a5 = 3 := by
    rcases C_lamp (σ := σ) (p1 := a1) (p2 := a2) (p3 := a3) (p4 := a4) (p5 := a5) with z | z | z | z <;> rw [z] <;> decide
  have q := ((Q_lamp hI hO a1 a2 a3 a4 a5).1).law hcx
  have F := fin3 hRA hRA hI hO (N_lamp σ a1 a2 a3 a4 a5) q.2.2.1 q.2.2.2 (Q_lamp hI hO a1 a2 a3 a4 a5).2.1 (Q_lamp hI hO a1 a2 a3 a4 a5).2.2
  refine J_iload_5 X dL_law__740 ?_
  refine J_icmp_eq (tgt := 747) X dL_law__742 (by decide) (fun _ => ?_) (fun z => absurd q.1 z)
  refine J_iload_5 X dL_law__747 ?_
  have KE : J K (un h2x (un hm3 (one o (oc (kca K) (if X_lamp_c σ a1 a2 a3 a4 a5 = 0 then vp_updL g 0 (X_lamp σ a1 a2 a3 a4 a5).toInt64 else g))))) [some (.ref b), some (.ref (ρ 0 0)), some (.ref m), some (.ref o), some (.int (nI i)), some (.int (lawK (X_lamp_c σ a1 a2 a3 a4 a5) 1 2 3)), some (.int (M_lamp σ a1 a2 a3 a4 a5)), none] [] 764 (cells + 8) (slots + 148) := by
    refine J_goto (tgt := 2310) X dL_law__764 (by decide) ?_
    refine J.subL (lv' := [some (.ref b), some (.ref (ρ 0 0)), some (.ref m), some (.ref o), some (.int (nI i)), none, none, none]) ⟨rfl, rfl, rfl, rfl, rfl, trivial⟩ ?_
    exact J.widen (show cells + 8 ≤ cells + 8 by omega) (show slots + 148 ≤ slots + 148 by omega) (k _ _ _ _ ⟨F.1, ⟨ρm, hRM2⟩, F.2.1, F.2.2, b3, ap2, b4⟩)
  refine J_if_ne (tgt := 764) X dL_law__749 (by decide) (fun _ => KE) (fun z => ?_)
  have z0 : X_lamp_c σ a1 a2 a3 a4 a5 = 0 := by
    rcases C_lamp (σ := σ) (p1 := a1) (p2 := a2) (p3 := a3) (p4 := a4) (p5 := a5) with w | w | w | w
    · exact w
    · rw [w] at z; exact absurd z (by decide)
    · rw [w] at z; exact absurd z (by decide)
    · rw [w] at z; exact absurd z (by decide)
  refine J_aload_3 X dL_law__752 ?_
  refine J_iconst (v := 0) X dL_law__753 rfl ?_
  refine J_lald' X (N := 1) (v := (X_lamp σ a1 a2 a3 a4 a5).toInt64) (un_out ap2 b4) vp01 (by rw [if_pos z0]; exact updL0 _ _) dL_law__754 ?_
  refine J_iload_6 X dL_law__755 ?_
  refine J_i2l X dL_law__757 ?_
  refine J_lcmp X dL_law__758 ?_
  exact J_if_eq (tgt := 764) X dL_law__759 (by decide) (fun _ => KE) (fun z => absurd (lg_eq (congrArg Int32.toInt64 (q.2.1 z0).symm)) z)
end
