noncomputable section
theorem LC_audit {K : KT} {mn : String} {ret : Option FieldType} {tb : List ExceptionTableEntry} {w0 : Cond} {h0 : fH} {post : Option Value → fH → Prop} {px : String → fH → Prop} (X : JX K mn "NightValleyLaw" cL_law_ 8 ret tb w0 room_1 h0 post px) {b L i r m o : Nat} {xs : Nat → Int32} (S : LSc K b L i xs) : CASE K b r m o i 1350 := by
  intro hx hm g σ cells slots hLI hc hs k
  obtain ⟨⟨ρ, μ, cap, hR, hr, hcap⟩, ⟨ρm, hRM⟩, hI, hO, h1, h2, h3⟩ := hLI
  subst hr
  obtain ⟨S1, S2, S3, S4, S5⟩ := S
  generalize e1 : xs (nI i + 1).toNatClampNeg = a1
  refine J_aload_1 X dL_law__1350 ?_
  refine J_aload_0 X dL_law__1351 ?_
  refine J_iload_4 X dL_law__1352 ?_
  refine J_iconst (v := 1) X dL_law__1354 rfl ?_
  refine J_iadd X dL_law__1355 ?_
  refine J_sld X S1 S2 S3 (lin (j := 1) S5 S4 (by decide)) e1 dL_law__1356 ?_
  refine J_aload_3 X dL_law__1357 ?_
  refine J_callSW X (fr_x (c_L_audit hR hI hcap a1 h2) h1 h3) (And.intro gw_4_48 cw_L_audit) rfl (hroom2 (show cells + 1 ≤ 601024 by omega) (show slots + 6 ≤ 7293034 by omega)) (Nat.le_of_ble_eq_true rfl) dL_law__1358 rfl (fun v h' e => ?_) (fun E h' e => e.elim)
  obtain ⟨e0, h2x, hRA, ap1, ap2, e⟩ := e
  subst e0
  subst e
  show J K _ [some (.ref b), some (.ref (ρ 0 0)), some (.ref m), some (.ref o), some (.int (nI i)), none, none, none] [.int (lawK (X_audit_c σ a1) 0 1 0)] 1361 (cells + 1) (slots + 6)
  refine J_istore_5 X dL_law__1361 rfl (by decide) ?_
  refine J_aload_2 X dL_law__1363 ?_
  refine J_aload_0 X dL_law__1364 ?_
  refine J_iload_4 X dL_law__1365 ?_
  refine J_iconst (v := 1) X dL_law__1367 rfl ?_
  refine J_iadd X dL_law__1368 ?_
  refine J_sld X S1 S2 S3 (lin (j := 1) S5 S4 (by decide)) e1 dL_law__1369 ?_
  refine J_callV X (fr_m (c_M_audit hRM hI.1 a1) ap1 ap2 h3) (And.intro gw_6_33 cw_X11_audit) (un_mid_l ap1 hRM.1) rfl rfl (hroom2 (show cells + 1 ≤ 601024 by omega) (show slots + 6 ≤ 7293034 by omega)) (Nat.le_of_ble_eq_true rfl) dL_law__1370 rfl (fun v h' e => ?_) (fun E h' e => e.elim)
  obtain ⟨hm2, ⟨e0, hRM2⟩, b1, b2, e⟩ := e
  subst e0
  subst e
  show J K _ [some (.ref b), some (.ref (ρ 0 0)), some (.ref m), some (.ref o), some (.int (nI i)), some (.int (lawK (X_audit_c σ a1) 0 1 0)), none, none] [.int (M_audit σ a1)] 1373 (cells + 1) (slots + 6)
  refine J_istore_6 X dL_law__1373 rfl (by decide) ?_
  refine J_aload_2 X dL_law__1375 ?_
  refine J_callV X (fr_m (c_M_thrown hRM2) b1 ap2 b2) (And.intro gw_5_137 cw_X11_thrown) (un_mid_l b1 hRM2.1) rfl rfl (hroom2 (show cells + 1 ≤ 601024 by omega) (show slots + 6 ≤ 7293034 by omega)) (Nat.le_of_ble_eq_true rfl) dL_law__1376 rfl (fun v h' e => ?_) (fun E h' e => e.elim)
  obtain ⟨hm3, ⟨e0, e4⟩, b3, b4, e⟩ := e
  subst e0
  subst e
  subst e4
  show J K _ [some (.ref b), some (.ref (ρ 0 0)), some (.ref m), some (.ref o), some (.int (nI i)), some (.int (lawK (X_audit_c σ a1) 0 1 0)), some (.int (M_audit σ a1)), none] [.int (M_thrown (M_audit_s σ a1))] 1379 (cells + 1) (slots + 6)
  have hcx : X_audit_c σ a1 = 0 ∨ X_audit_c σ a1 = 1 ∨ X_audit_c σ a1 = 2 ∨ X_audit_c σ a1 = 3 := by
    rcases C_audit (σ := σ) (p1 := a1) with z | z <;> rw [z] <;> decide
  have q := (Q_audit hI a1).law hcx
  have F := fin3 hRA hRA.c34 hI hO (N_audit σ a1) q.2.2.1 q.2.2.2 (I_audit hI a1) (O_audit hO a1)
  refine J_iload_5 X dL_law__1379 ?_
  refine J_icmp_eq (tgt := 1386) X dL_law__1381 (by decide) (fun _ => ?_) (fun z => absurd q.1 z)
  refine J_iload_5 X dL_law__1386 ?_
  have KE : J K (un h2x (un hm3 (one o (oc (kca K) (if X_audit_c σ a1 = 0 then vp_updL g 0 (if X_audit σ a1 = 0 then (0 : Int64) else 1) else g))))) [some (.ref b), some (.ref (ρ 0 0)), some (.ref m), some (.ref o), some (.int (nI i)), some (.int (lawK (X_audit_c σ a1) 0 1 0)), some (.int (M_audit σ a1)), none] [] 1410 (cells + 1) (slots + 6) := by
    refine J_goto (tgt := 2310) X dL_law__1410 (by decide) ?_
    refine J.subL (lv' := [some (.ref b), some (.ref (ρ 0 0)), some (.ref m), some (.ref o), some (.int (nI i)), none, none, none]) ⟨rfl, rfl, rfl, rfl, rfl, trivial⟩ ?_
    exact J.widen (show cells + 1 ≤ cells + 8 by omega) (show slots + 6 ≤ slots + 148 by omega) (k _ _ _ _ ⟨F.1, ⟨ρm, hRM2⟩, F.2.1, F.2.2, b3, ap2, b4⟩)
  refine J_if_ne (tgt := 1410) X dL_law__1388 (by decide) (fun _ => KE) (fun z => ?_)
  have z0 : X_audit_c σ a1 = 0 := by
    rcases C_audit (σ := σ) (p1 := a1) with w | w
    · exact w
    · rw [w] at z; exact absurd z (by decide)
  refine J_aload_3 X dL_law__1391 ?_
  refine J_iconst (v := 0) X dL_law__1392 rfl ?_
  refine J_lald' X (N := 1) (v := (zl (X_audit σ a1))) (un_out ap2 b4) vp01 (by rw [if_pos z0]; exact updL0 _ _) dL_law__1393 ?_
  refine J_iload_6 X dL_law__1394 ?_
  refine J_bl X dL_law__1396 dL_law__1399 dL_law__1400 dL_law__1403 ?_
  refine J_lcmp X dL_law__1404 ?_
  exact J_if_eq (tgt := 1410) X dL_law__1405 (by decide) (fun _ => KE) (fun z => absurd (lg_eq (congrArg zl (q.2.1 z0).symm)) z)
theorem LC_satellite {K : KT} {mn : String} {ret : Option FieldType} {tb : List ExceptionTableEntry} {w0 : Cond} {h0 : fH} {post : Option Value → fH → Prop} {px : String → fH → Prop} (X : JX K mn "NightValleyLaw" cL_law_ 8 ret tb w0 room_1 h0 post px) {b L i r m o : Nat} {xs : Nat → Int32} (S : LSc K b L i xs) : CASE K b r m o i 1413 := by
  intro hx hm g σ cells slots hLI hc hs k
  obtain ⟨⟨ρ, μ, cap, hR, hr, hcap⟩, ⟨ρm, hRM⟩, hI, hO, h1, h2, h3⟩ := hLI
  subst hr
  obtain ⟨S1, S2, S3, S4, S5⟩ := S
  generalize e1 : xs (nI i + 1).toNatClampNeg = a1
  generalize e2 : xs (nI i + 2).toNatClampNeg = a2
  refine J_aload_1 X dL_law__1413 ?_
  refine J_aload_0 X dL_law__1414 ?_
  refine J_iload_4 X dL_law__1415 ?_
  refine J_iconst (v := 1) X dL_law__1417 rfl ?_
  refine J_iadd X dL_law__1418 ?_
  refine J_sld X S1 S2 S3 (lin (j := 1) S5 S4 (by decide)) e1 dL_law__1419 ?_
  refine J_aload_0 X dL_law__1420 ?_
  refine J_iload_4 X dL_law__1421 ?_
  refine J_iconst (v := 2) X dL_law__1423 rfl ?_
  refine J_iadd X dL_law__1424 ?_
  refine J_sld X S1 S2 S3 (lin (j := 2) S5 S4 (by decide)) e2 dL_law__1425 ?_
  refine J_aload_3 X dL_law__1426 ?_
  refine J_callSW X (fr_x (c_L_satellite hR hI hcap a1 a2 h2) h1 h3) (And.intro gw_4_71 cw_L_satellite) rfl (hroom2 (show cells + 5 ≤ 601024 by omega) (show slots + 120 ≤ 7293034 by omega)) (Nat.le_of_ble_eq_true rfl) dL_law__1427 rfl (fun v h' e => ?_) (fun E h' e => e.elim)
  obtain ⟨e0, h2x, hRA, ap1, ap2, e⟩ := e
  subst e0
  subst e
  show J K _ [some (.ref b), some (.ref (ρ 0 0)), some (.ref m), some (.ref o), some (.int (nI i)), none, none, none] [.int (lawK (X_satellite_c σ a1 a2) 0 1 2)] 1430 (cells + 5) (slots + 120)
  refine J_istore_5 X dL_law__1430 rfl (by decide) ?_
  refine J_aload_2 X dL_law__1432 ?_
  refine J_aload_0 X dL_law__1433 ?_
  refine J_iload_4 X dL_law__1434 ?_
  refine J_iconst (v := 1) X dL_law__1436 rfl ?_
  refine J_iadd X dL_law__1437 ?_
  refine J_sld X S1 S2 S3 (lin (j := 1) S5 S4 (by decide)) e1 dL_law__1438 ?_
  refine J_aload_0 X dL_law__1439 ?_
  refine J_iload_4 X dL_law__1440 ?_
  refine J_iconst (v := 2) X dL_law__1442 rfl ?_
  refine J_iadd X dL_law__1443 ?_
  refine J_sld X S1 S2 S3 (lin (j := 2) S5 S4 (by decide)) e2 dL_law__1444 ?_
  refine J_callV X (fr_m (c_M_satellite hRM hI.1 a1 a2) ap1 ap2 h3) (And.intro gw_6_42 cw_X11_satellite) (un_mid_l ap1 hRM.1) rfl rfl (hroom2 (show cells + 5 ≤ 601024 by omega) (show slots + 120 ≤ 7293034 by omega)) (Nat.le_of_ble_eq_true rfl) dL_law__1445 rfl (fun v h' e => ?_) (fun E h' e => e.elim)
  obtain ⟨hm2, ⟨e0, hRM2⟩, b1, b2, e⟩ := e
  subst e0
  subst e
  show J K _ [some (.ref b), some (.ref (ρ 0 0)), some (.ref m), some (.ref o), some (.int (nI i)), some (.int (lawK (X_satellite_c σ a1 a2) 0 1 2)), none, none] [.int (M_satellite σ a1 a2)] 1448 (cells + 5) (slots + 120)
  refine J_istore_6 X dL_law__1448 rfl (by decide) ?_
  refine J_aload_2 X dL_law__1450 ?_
  refine J_callV X (fr_m (c_M_thrown hRM2) b1 ap2 b2) (And.intro gw_5_137 cw_X11_thrown) (un_mid_l b1 hRM2.1) rfl rfl (hroom2 (show cells + 5 ≤ 601024 by omega) (show slots + 120 ≤ 7293034 by omega)) (Nat.le_of_ble_eq_true rfl) dL_law__1451 rfl (fun v h' e => ?_) (fun E h' e => e.elim)
  obtain ⟨hm3, ⟨e0, e4⟩, b3, b4, e⟩ := e
  subst e0
  subst e
  subst e4
  show J K _ [some (.ref b), some (.ref (ρ 0 0)), some (.ref m), some (.ref o), some (.int (nI i)), some (.int (lawK (X_satellite_c σ a1 a2) 0 1 2)), some (.int (M_satellite σ a1 a2)), none] [.int (M_thrown (M_satellite_s σ a1 a2))] 1454 (cells + 5) (slots + 120)
  have hcx : X_satellite_c σ a1 a2 = 0 ∨ X_satellite_c σ a1 a2 = 1 ∨ X_satellite_c σ a1 a2 = 2 ∨ X_satellite_c σ a1 a2 = 3 := by
    rcases C_satellite (σ := σ) (p1 := a1) (p2 := a2) with z | z | z <;> rw [z] <;> decide
  have q := ((Q_satellite hI hO a1 a2).1).law hcx
  have F := fin3 hRA hRA hI hO (N_satellite σ a1 a2) q.2.2.1 q.2.2.2 (Q_satellite hI hO a1 a2).2.1 (Q_satellite hI hO a1 a2).2.2
  refine J_iload_5 X dL_law__1454 ?_
  refine J_icmp_eq (tgt := 1461) X dL_law__1456 (by decide) (fun _ => ?_) (fun z => absurd q.1 z)
  refine J_iload_5 X dL_law__1461 ?_
  have KE : J K (un h2x (un hm3 (one o (oc (kca K) (if X_satellite_c σ a1 a2 = 0 then vp_updL g 0 (X_satellite σ a1 a2).toInt64 else g))))) [some (.ref b), some (.ref (ρ 0 0)), some (.ref m), some (.ref o), some (.int (nI i)), some (.int (lawK (X_satellite_c σ a1 a2) 0 1 2)), some (.int (M_satellite σ a1 a2)), none] [] 1478 (cells + 5) (slots + 120) := by
    refine J_goto (tgt := 2310) X dL_law__1478 (by decide) ?_
    refine J.subL (lv' := [some (.ref b), some (.ref (ρ 0 0)), some (.ref m), some (.ref o), some (.int (nI i)), none, none, none]) ⟨rfl, rfl, rfl, rfl, rfl, trivial⟩ ?_
    exact J.widen (show cells + 5 ≤ cells + 8 by omega) (show slots + 120 ≤ slots + 148 by omega) (k _ _ _ _ ⟨F.1, ⟨ρm, hRM2⟩, F.2.1, F.2.2, b3, ap2, b4⟩)
  refine J_if_ne (tgt := 1478) X dL_law__1463 (by decide) (fun _ => KE) (fun z => ?_)
  have z0 : X_satellite_c σ a1 a2 = 0 := by
    rcases C_satellite (σ := σ) (p1 := a1) (p2 := a2) with w | w | w
    · exact w
    · rw [w] at z; exact absurd z (by decide)
    · rw [w] at z; exact absurd z (by decide)
  refine J_aload_3 X dL_law__1466 ?_
  refine J_iconst (v := 0) X dL_law__1467 rfl ?_
  refine J_lald' X (N := 1) (v := (X_satellite σ a1 a2).toInt64) (un_out ap2 b4) vp01 (by rw [if_pos z0]; exact updL0 _ _) dL_law__1468 ?_
  refine J_iload_6 X dL_law__1469 ?_
  refine J_i2l X dL_law__1471 ?_
  refine J_lcmp X dL_law__1472 ?_
  exact J_if_eq (tgt := 1478) X dL_law__1473 (by decide) (fun _ => KE) (fun z => absurd (lg_eq (congrArg Int32.toInt64 (q.2.1 z0).symm)) z)
theorem LC_time {K : KT} {mn : String} {ret : Option FieldType} {tb : List ExceptionTableEntry} {w0 : Cond} {h0 : fH} {post : Option Value → fH → Prop} {px : String → fH → Prop} (X : JX K mn "NightValleyLaw" cL_law_ 8 ret tb w0 room_1 h0 post px) {b L i r m o : Nat} {xs : Nat → Int32} (S : LSc K b L i xs) : CASE K b r m o i 1481 := by
  intro hx hm g σ cells slots hLI hc hs k
  obtain ⟨⟨ρ, μ, cap, hR, hr, hcap⟩, ⟨ρm, hRM⟩, hI, hO, h1, h2, h3⟩ := hLI
  subst hr
  obtain ⟨S1, S2, S3, S4, S5⟩ := S
  refine J_aload_1 X dL_law__1481 ?_
  refine J_callV X (fr_v ((c_X_time hR hI).conseq (fun _ _ e => e) (fun _ _ e => e.2.1 rfl)) h1 h2 h3) (And.intro gw_2_30 cw_X10_time) (un_l hR.root) rfl rfl (hroom2 (show cells + 0 ≤ 601024 by omega) (show slots + 0 ≤ 7293034 by omega)) (Nat.le_of_ble_eq_true rfl) dL_law__1482 rfl (fun v h' e => ?_) (fun E h' e => e.elim)
  obtain ⟨h2x, ⟨e0, ec, hRX⟩, a1, a2, e⟩ := e
  subst e0
  subst e
  show J K _ _ [.int (X_time σ)] 1485 cells slots
  refine J_aload_2 X dL_law__1485 ?_
  refine J_callV X (fr_m (c_M_time hRM) a1 a2 h3) (And.intro gw_6_46 cw_X11_time) (un_mid_l a1 hRM.1) rfl rfl (hroom2 (show cells + 0 ≤ 601024 by omega) (show slots + 0 ≤ 7293034 by omega)) (Nat.le_of_ble_eq_true rfl) dL_law__1486 rfl (fun v h' e => ?_) (fun E h' e => e.elim)
  obtain ⟨hm2, ⟨e0, hRM2⟩, b1, b2, e⟩ := e
  subst e0
  subst e
  show J K _ _ [.int (M_time σ), .int (X_time σ)] 1489 cells slots
  have q := (Q_time σ).law (Or.inl rfl)
  have F := fin3 (cx := 0) (sm := M_time_s σ) ⟨ρ, μ, cap, hRX, rfl, hcap⟩ ⟨ρ, μ, cap, hRX, rfl, hcap⟩ hI hO (Or.inl rfl) q.2.2.1 q.2.2.2 hI hO
  refine J_icmp_eq (tgt := 2310) X dL_law__1489 (by decide) (fun _ => ?_) (fun z => absurd (q.2.1 rfl).symm z)
  exact J.widen (show cells ≤ cells + 8 by omega) (show slots ≤ slots + 148 by omega) (k _ _ _ _ ⟨F.1, ⟨ρm, hRM2⟩, F.2.1, F.2.2, b1, a2, b2⟩)
theorem LC_ofLamp {K : KT} {mn : String} {ret : Option FieldType} {tb : List ExceptionTableEntry} {w0 : Cond} {h0 : fH} {post : Option Value → fH → Prop} {px : String → fH → Prop} (X : JX K mn "NightValleyLaw" cL_law_ 8 ret tb w0 room_1 h0 post px) {b L i r m o : Nat} {xs : Nat → Int32} (S : LSc K b L i xs) : CASE K b r m o i 1494 := by
  intro hx hm g σ cells slots hLI hc hs k
  obtain ⟨⟨ρ, μ, cap, hR, hr, hcap⟩, ⟨ρm, hRM⟩, hI, hO, h1, h2, h3⟩ := hLI
  subst hr
  obtain ⟨S1, S2, S3, S4, S5⟩ := S
  generalize e1 : xs (nI i + 1).toNatClampNeg = a1
  generalize e2 : xs (nI i + 2).toNatClampNeg = a2
  refine J_aload_1 X dL_law__1494 ?_
  refine J_aload_0 X dL_law__1495 ?_
  refine J_iload_4 X dL_law__1496 ?_
  refine J_iconst (v := 1) X dL_law__1498 rfl ?_
  refine J_iadd X dL_law__1499 ?_
  refine J_sld X S1 S2 S3 (lin (j := 1) S5 S4 (by decide)) e1 dL_law__1500 ?_
  refine J_aload_0 X dL_law__1501 ?_
  refine J_iload_4 X dL_law__1502 ?_
  refine J_iconst (v := 2) X dL_law__1504 rfl ?_
  refine J_iadd X dL_law__1505 ?_
  refine J_sld X S1 S2 S3 (lin (j := 2) S5 S4 (by decide)) e2 dL_law__1506 ?_
  refine J_aload_3 X dL_law__1507 ?_
  refine J_callSW X (fr_x (c_L_ofLamp hR hI hcap a1 a2 h2) h1 h3) (And.intro gw_4_91 cw_L_ofLamp) rfl (hroom2 (show cells + 2 ≤ 601024 by omega) (show slots + 12 ≤ 7293034 by omega)) (Nat.le_of_ble_eq_true rfl) dL_law__1508 rfl (fun v h' e => ?_) (fun E h' e => e.elim)
  obtain ⟨e0, h2x, hRA, ap1, ap2, e⟩ := e
  subst e0
  subst e
  show J K _ [some (.ref b), some (.ref (ρ 0 0)), some (.ref m), some (.ref o), some (.int (nI i)), none, none, none] [.int (lawK (X_ofLamp_c σ a1 a2) 1 2 0)] 1511 (cells + 2) (slots + 12)
  refine J_istore_5 X dL_law__1511 rfl (by decide) ?_
  refine J_aload_2 X dL_law__1513 ?_
  refine J_aload_0 X dL_law__1514 ?_
  refine J_iload_4 X dL_law__1515 ?_
  refine J_iconst (v := 1) X dL_law__1517 rfl ?_
  refine J_iadd X dL_law__1518 ?_
  refine J_sld X S1 S2 S3 (lin (j := 1) S5 S4 (by decide)) e1 dL_law__1519 ?_
  refine J_aload_0 X dL_law__1520 ?_
  refine J_iload_4 X dL_law__1521 ?_
  refine J_iconst (v := 2) X dL_law__1523 rfl ?_
  refine J_iadd X dL_law__1524 ?_
  refine J_sld X S1 S2 S3 (lin (j := 2) S5 S4 (by decide)) e2 dL_law__1525 ?_
  refine J_callV X (fr_m (c_M_ofLamp hRM hI.1 a1 a2) ap1 ap2 h3) (And.intro gw_6_50 cw_X11_ofLamp) (un_mid_l ap1 hRM.1) rfl rfl (hroom2 (show cells + 2 ≤ 601024 by omega) (show slots + 12 ≤ 7293034 by omega)) (Nat.le_of_ble_eq_true rfl) dL_law__1526 rfl (fun v h' e => ?_) (fun E h' e => e.elim)
  obtain ⟨hm2, ⟨e0, hRM2⟩, b1, b2, e⟩ := e
  subst e0
  subst e
  show J K _ [some (.ref b), some (.ref (ρ 0 0)), some (.ref m), some (.ref o), some (.int (nI i)), some (.int (lawK (X_ofLamp_c σ a1 a2) 1 2 0)), none, none] [.int (M_ofLamp σ a1 a2)] 1529 (cells + 2) (slots + 12)
  refine J_istore_6 X dL_law__1529 rfl (by decide) ?_
  refine J_aload_2 X dL_law__1531 ?_
  refine J_callV X (fr_m (c_M_thrown hRM2) b1 ap2 b2) (And.intro gw_5_137 cw_X11_thrown) (un_mid_l b1 hRM2.1) rfl rfl (hroom2 (show cells + 2 ≤ 601024 by omega) (show slots + 12 ≤ 7293034 by omega)) (Nat.le_of_ble_eq_true rfl) dL_law__1532 rfl (fun v h' e => ?_) (fun E h' e => e.elim)
  obtain ⟨hm3, ⟨e0, e4⟩, b3, b4, e⟩ := e
  subst e0
  subst e
  subst e4
  show J K _ [some (.ref b), some (.ref (ρ 0 0)), some (.ref m), some (.ref o), some (.int (nI i)), some (.int (lawK (X_ofLamp_c σ a1 a2) 1 2 0)), some (.int (M_ofLamp σ a1 a2)), none] [.int (M_thrown (M_ofLamp_s σ a1 a2))] 1535 (cells + 2) (slots + 12)
  have hcx : X_ofLamp_c σ a1 a2 = 0 ∨ X_ofLamp_c σ a1 a2 = 1 ∨ X_ofLamp_c σ a1 a2 = 2 ∨ X_ofLamp_c σ a1 a2 = 3 := by
    rcases C_ofLamp (σ := σ) (p1 := a1) (p2 := a2) with z | z | z <;> rw [z] <;> decide
  have q := (Q_ofLamp hI a1 a2).law hcx
  have F := fin3 hRA hRA hI hO (Or.inr (R_ofLamp σ a1 a2)) q.2.2.1 q.2.2.2 (by rw [R_ofLamp]; exact hI) (by rw [R_ofLamp]; exact hO)
  refine J_iload_5 X dL_law__1535 ?_
  refine J_icmp_eq (tgt := 1542) X dL_law__1537 (by decide) (fun _ => ?_) (fun z => absurd q.1 z)
  refine J_iload_5 X dL_law__1542 ?_
  have KE : J K (un h2x (un hm3 (one o (oc (kca K) (if X_ofLamp_c σ a1 a2 = 0 then vp_updL g 0 (X_ofLamp σ a1 a2).toInt64 else g))))) [some (.ref b), some (.ref (ρ 0 0)), some (.ref m), some (.ref o), some (.int (nI i)), some (.int (lawK (X_ofLamp_c σ a1 a2) 1 2 0)), some (.int (M_ofLamp σ a1 a2)), none] [] 1559 (cells + 2) (slots + 12) := by
    refine J_goto (tgt := 2310) X dL_law__1559 (by decide) ?_
    refine J.subL (lv' := [some (.ref b), some (.ref (ρ 0 0)), some (.ref m), some (.ref o), some (.int (nI i)), none, none, none]) ⟨rfl, rfl, rfl, rfl, rfl, trivial⟩ ?_
    exact J.widen (show cells + 2 ≤ cells + 8 by omega) (show slots + 12 ≤ slots + 148 by omega) (k _ _ _ _ ⟨F.1, ⟨ρm, hRM2⟩, F.2.1, F.2.2, b3, ap2, b4⟩)
  refine J_if_ne (tgt := 1559) X dL_law__1544 (by decide) (fun _ => KE) (fun z => ?_)
  have z0 : X_ofLamp_c σ a1 a2 = 0 := by
    rcases C_ofLamp (σ := σ) (p1 := a1) (p2 := a2) with w | w | w
    · exact w
    · rw [w] at z; exact absurd z (by decide)
    · rw [w] at z; exact absurd z (by decide)
  refine J_aload_3 X dL_law__1547 ?_
  refine J_iconst (v := 0) X dL_law__1548 rfl ?_
  refine J_lald' X (N := 1) (v := (X_ofLamp σ a1 a2).toInt64) (un_out ap2 b4) vp01 (by rw [if_pos z0]; exact updL0 _ _) dL_law__1549 ?_
  refine J_iload_6 X dL_law__1550 ?_
  refine J_i2l X dL_law__1552 ?_
  refine J_lcmp X dL_law__1553 ?_
  exact J_if_eq (tgt := 1559) X dL_law__1554 (by decide) (fun _ => KE) (fun z => absurd (lg_eq (congrArg Int32.toInt64 (q.2.1 z0).symm)) z)
theorem LC_ofVillage {K : KT} {mn : String} {ret : Option FieldType} {tb : List ExceptionTableEntry} {w0 : Cond} {h0 : fH} {post : Option Value → fH → Prop} {px : String → fH → Prop} (X : JX K mn "NightValleyLaw" cL_law_ 8 ret tb w0 room_1 h0 post px) {b L i r m o : Nat} {xs : Nat → Int32} (S : LSc K b L i xs) : CASE K b r m o i 1562 := by
  intro hx hm g σ cells slots hLI hc hs k
  obtain ⟨⟨ρ, μ, cap, hR, hr, hcap⟩, ⟨ρm, hRM⟩, hI, hO, h1, h2, h3⟩ := hLI
  subst hr
  obtain ⟨S1, S2, S3, S4, S5⟩ := S
  generalize e1 : xs (nI i + 1).toNatClampNeg = a1
  generalize e2 : xs (nI i + 2).toNatClampNeg = a2
  refine J_aload_1 X dL_law__1562 ?_
  refine J_aload_0 X dL_law__1563 ?_
  refine J_iload_4 X dL_law__1564 ?_
  refine J_iconst (v := 1) X dL_law__1566 rfl ?_
  refine J_iadd X dL_law__1567 ?_
  refine J_sld X S1 S2 S3 (lin (j := 1) S5 S4 (by decide)) e1 dL_law__1568 ?_
  refine J_aload_0 X dL_law__1569 ?_
  refine J_iload_4 X dL_law__1570 ?_
  refine J_iconst (v := 2) X dL_law__1572 rfl ?_
  refine J_iadd X dL_law__1573 ?_
  refine J_sld X S1 S2 S3 (lin (j := 2) S5 S4 (by decide)) e2 dL_law__1574 ?_
  refine J_aload_3 X dL_law__1575 ?_
  refine J_callSW X (fr_x (c_L_ofVillage hR hI hcap a1 a2 h2) h1 h3) (And.intro gw_4_99 cw_L_ofVillage) rfl (hroom2 (show cells + 2 ≤ 601024 by omega) (show slots + 12 ≤ 7293034 by omega)) (Nat.le_of_ble_eq_true rfl) dL_law__1576 rfl (fun v h' e => ?_) (fun E h' e => e.elim)
  obtain ⟨e0, h2x, hRA, ap1, ap2, e⟩ := e
  subst e0
  subst e
  show J K _ [some (.ref b), some (.ref (ρ 0 0)), some (.ref m), some (.ref o), some (.int (nI i)), none, none, none] [.int (lawK (X_ofVillage_c σ a1 a2) 1 2 0)] 1579 (cells + 2) (slots + 12)
  refine J_istore_5 X dL_law__1579 rfl (by decide) ?_
  refine J_aload_2 X dL_law__1581 ?_
  refine J_aload_0 X dL_law__1582 ?_
  refine J_iload_4 X dL_law__1583 ?_
  refine J_iconst (v := 1) X dL_law__1585 rfl ?_
  refine J_iadd X dL_law__1586 ?_
  refine J_sld X S1 S2 S3 (lin (j := 1) S5 S4 (by decide)) e1 dL_law__1587 ?_
  refine J_aload_0 X dL_law__1588 ?_
  refine J_iload_4 X dL_law__1589 ?_
  refine J_iconst (v := 2) X dL_law__1591 rfl ?_
  refine J_iadd X dL_law__1592 ?_
  refine J_sld X S1 S2 S3 (lin (j := 2) S5 S4 (by decide)) e2 dL_law__1593 ?_
  refine J_callV X (fr_m (c_M_ofVillage hRM hI.1 a1 a2) ap1 ap2 h3) (And.intro gw_6_54 cw_X11_ofVillage) (un_mid_l ap1 hRM.1) rfl rfl (hroom2 (show cells + 2 ≤ 601024 by omega) (show slots + 12 ≤ 7293034 by omega)) (Nat.le_of_ble_eq_true rfl) dL_law__1594 rfl (fun v h' e => ?_) (fun E h' e => e.elim)
  obtain ⟨hm2, ⟨e0, hRM2⟩, b1, b2, e⟩ := e
  subst e0
  subst e
  show J K _ [some (.ref b), some (.ref (ρ 0 0)), some (.ref m), some (.ref o), some (.int (nI i)), some (.int (lawK (X_ofVillage_c σ a1 a2) 1 2 0)), none, none] [.int (M_ofVillage σ a1 a2)] 1597 (cells + 2) (slots + 12)
  refine J_istore_6 X dL_law__1597 rfl (by decide) ?_
  refine J_aload_2 X dL_law__1599 ?_
  refine J_callV X (fr_m (c_M_thrown hRM2) b1 ap2 b2) (And.intro gw_5_137 cw_X11_thrown) (un_mid_l b1 hRM2.1) rfl rfl (hroom2 (show cells + 2 ≤ 601024 by omega) (show slots + 12 ≤ 7293034 by omega)) (Nat.le_of_ble_eq_true rfl) dL_law__1600 rfl (fun v h' e => ?_) (fun E h' e => e.elim)
  obtain ⟨hm3, ⟨e0, e4⟩, b3, b4, e⟩ := e
  subst e0
  subst e
  subst e4
  show J K _ [some (.ref b), some (.ref (ρ 0 0)), some (.ref m), some (.ref o), some (.int (nI i)), some (.int (lawK (X_ofVillage_c σ a1 a2) 1 2 0)), some (.int (M_ofVillage σ a1 a2)), none] [.int (M_thrown (M_ofVillage_s σ a1 a2))] 1603 (cells + 2) (slots + 12)
  have hcx : X_ofVillage_c σ a1 a2 = 0 ∨ X_ofVillage_c σ a1 a2 = 1 ∨ X_ofVillage_c σ a1 a2 = 2 ∨ X_ofVillage_c σ a1 a2 = 3 := by
    rcases C_ofVillage (σ := σ) (p1 := a1) (p2 := a2) with z | z | z <;> rw [z] <;> decide
  have q := (Q_ofVillage hI a1 a2).law hcx
  have F := fin3 hRA hRA hI hO (Or.inr (R_ofVillage σ a1 a2)) q.2.2.1 q.2.2.2 (by rw [R_ofVillage]; exact hI) (by rw [R_ofVillage]; exact hO)
  refine J_iload_5 X dL_law__1603 ?_
  refine J_icmp_eq (tgt := 1610) X dL_law__1605 (by decide) (fun _ => ?_) (fun z => absurd q.1 z)
  refine J_iload_5 X dL_law__1610 ?_
  have KE : J K (un h2x (un hm3 (one o (oc (kca K) (if X_ofVillage_c σ a1 a2 = 0 then vp_updL g 0 (X_ofVillage σ a1 a2).toInt64 else g))))) [some (.ref b), some (.ref (ρ 0 0)), some (.ref m), some (.ref o), some (.int (nI i)), some (.int (lawK (X_ofVillage_c σ a1 a2) 1 2 0)), some (.int (M_ofVillage σ a1 a2)), none] [] 1627 (cells + 2) (slots + 12) := by
    refine J_goto (tgt := 2310) X dL_law__1627 (by decide) ?_
    refine J.subL (lv' := [some (.ref b), some (.ref (ρ 0 0)), some (.ref m), some (.ref o), some (.int (nI i)), none, none, none]) ⟨rfl, rfl, rfl, rfl, rfl, trivial⟩ ?_
    exact J.widen (show cells + 2 ≤ cells + 8 by omega) (show slots + 12 ≤ slots + 148 by omega) (k _ _ _ _ ⟨F.1, ⟨ρm, hRM2⟩, F.2.1, F.2.2, b3, ap2, b4⟩)
  refine J_if_ne (tgt := 1627) X dL_law__1612 (by decide) (fun _ => KE) (fun z => ?_)
  have z0 : X_ofVillage_c σ a1 a2 = 0 := by
    rcases C_ofVillage (σ := σ) (p1 := a1) (p2 := a2) with w | w | w
    · exact w
    · rw [w] at z; exact absurd z (by decide)
    · rw [w] at z; exact absurd z (by decide)
  refine J_aload_3 X dL_law__1615 ?_
  refine J_iconst (v := 0) X dL_law__1616 rfl ?_
  refine J_lald' X (N := 1) (v := (X_ofVillage σ a1 a2).toInt64) (un_out ap2 b4) vp01 (by rw [if_pos z0]; exact updL0 _ _) dL_law__1617 ?_
  refine J_iload_6 X dL_law__1618 ?_
  refine J_i2l X dL_law__1620 ?_
  refine J_lcmp X dL_law__1621 ?_
  exact J_if_eq (tgt := 1627) X dL_law__1622 (by decide) (fun _ => KE) (fun z => absurd (lg_eq (congrArg Int32.toInt64 (q.2.1 z0).symm)) z)
theorem LC_gives {K : KT} {mn : String} {ret : Option FieldType} {tb : List ExceptionTableEntry} {w0 : Cond} {h0 : fH} {post : Option Value → fH → Prop} {px : String → fH → Prop} (X : JX K mn "NightValleyLaw" cL_law_ 8 ret tb w0 room_1 h0 post px) {b L i r m o : Nat} {xs : Nat → Int32} (S : LSc K b L i xs) : CASE K b r m o i 1630 := by
  intro hx hm g σ cells slots hLI hc hs k
  obtain ⟨⟨ρ, μ, cap, hR, hr, hcap⟩, ⟨ρm, hRM⟩, hI, hO, h1, h2, h3⟩ := hLI
  subst hr
  obtain ⟨S1, S2, S3, S4, S5⟩ := S
  generalize e1 : xs (nI i + 1).toNatClampNeg = a1
  generalize e2 : xs (nI i + 2).toNatClampNeg = a2
  refine J_aload_1 X dL_law__1630 ?_
  refine J_aload_0 X dL_law__1631 ?_
  refine J_iload_4 X dL_law__1632 ?_
  refine J_iconst (v := 1) X dL_law__1634 rfl ?_
  refine J_iadd X dL_law__1635 ?_
  refine J_sld X S1 S2 S3 (lin (j := 1) S5 S4 (by decide)) e1 dL_law__1636 ?_
  refine J_aload_0 X dL_law__1637 ?_
  refine J_iload_4 X dL_law__1638 ?_
  refine J_iconst (v := 2) X dL_law__1640 rfl ?_
  refine J_iadd X dL_law__1641 ?_
  refine J_sld X S1 S2 S3 (lin (j := 2) S5 S4 (by decide)) e2 dL_law__1642 ?_
  refine J_aload_3 X dL_law__1643 ?_
  refine J_callSW X (fr_x (c_L_gives hR hI hcap a1 a2 h2) h1 h3) (And.intro gw_4_110 cw_L_gives) rfl (hroom2 (show cells + 2 ≤ 601024 by omega) (show slots + 12 ≤ 7293034 by omega)) (Nat.le_of_ble_eq_true rfl) dL_law__1644 rfl (fun v h' e => ?_) (fun E h' e => e.elim)
  obtain ⟨e0, h2x, hRA, ap1, ap2, e⟩ := e
  subst e0
  subst e
  show J K _ [some (.ref b), some (.ref (ρ 0 0)), some (.ref m), some (.ref o), some (.int (nI i)), none, none, none] [.int (lawK (X_gives_c σ a1 a2) 1 0 0)] 1647 (cells + 2) (slots + 12)
  refine J_istore_5 X dL_law__1647 rfl (by decide) ?_
  refine J_aload_2 X dL_law__1649 ?_
  refine J_aload_0 X dL_law__1650 ?_
  refine J_iload_4 X dL_law__1651 ?_
  refine J_iconst (v := 1) X dL_law__1653 rfl ?_
  refine J_iadd X dL_law__1654 ?_
  refine J_sld X S1 S2 S3 (lin (j := 1) S5 S4 (by decide)) e1 dL_law__1655 ?_
  refine J_aload_0 X dL_law__1656 ?_
  refine J_iload_4 X dL_law__1657 ?_
  refine J_iconst (v := 2) X dL_law__1659 rfl ?_
  refine J_iadd X dL_law__1660 ?_
  refine J_sld X S1 S2 S3 (lin (j := 2) S5 S4 (by decide)) e2 dL_law__1661 ?_
  refine J_callV X (fr_m (c_M_gives hRM hI.1 a1 a2) ap1 ap2 h3) (And.intro gw_6_58 cw_X11_gives) (un_mid_l ap1 hRM.1) rfl rfl (hroom2 (show cells + 2 ≤ 601024 by omega) (show slots + 12 ≤ 7293034 by omega)) (Nat.le_of_ble_eq_true rfl) dL_law__1662 rfl (fun v h' e => ?_) (fun E h' e => e.elim)
  obtain ⟨hm2, ⟨e0, hRM2⟩, b1, b2, e⟩ := e
  subst e0
  subst e
  show J K _ [some (.ref b), some (.ref (ρ 0 0)), some (.ref m), some (.ref o), some (.int (nI i)), some (.int (lawK (X_gives_c σ a1 a2) 1 0 0)), none, none] [.int (M_gives σ a1 a2)] 1665 (cells + 2) (slots + 12)
  refine J_istore_6 X dL_law__1665 rfl (by decide) ?_
  refine J_aload_2 X dL_law__1667 ?_
  refine J_callV X (fr_m (c_M_thrown hRM2) b1 ap2 b2) (And.intro gw_5_137 cw_X11_thrown) (un_mid_l b1 hRM2.1) rfl rfl (hroom2 (show cells + 2 ≤ 601024 by omega) (show slots + 12 ≤ 7293034 by omega)) (Nat.le_of_ble_eq_true rfl) dL_law__1668 rfl (fun v h' e => ?_) (fun E h' e => e.elim)
  obtain ⟨hm3, ⟨e0, e4⟩, b3, b4, e⟩ := e
  subst e0
  subst e
  subst e4
  show J K _ [some (.ref b), some (.ref (ρ 0 0)), some (.ref m), some (.ref o), some (.int (nI i)), some (.int (lawK (X_gives_c σ a1 a2) 1 0 0)), some (.int (M_gives σ a1 a2)), none] [.int (M_thrown (M_gives_s σ a1 a2))] 1671 (cells + 2) (slots + 12)
  have hcx : X_gives_c σ a1 a2 = 0 ∨ X_gives_c σ a1 a2 = 1 ∨ X_gives_c σ a1 a2 = 2 ∨ X_gives_c σ a1 a2 = 3 := by
    rcases C_gives (σ := σ) (p1 := a1) (p2 := a2) with z | z <;> rw [z] <;> decide
  have q := (Q_gives hI a1 a2).law hcx
  have F := fin3 hRA hRA hI hO (Or.inr (R_gives σ a1 a2)) q.2.2.1 q.2.2.2 (by rw [R_gives]; exact hI) (by rw [R_gives]; exact hO)
  refine J_iload_5 X dL_law__1671 ?_
  refine J_icmp_eq (tgt := 1678) X dL_law__1673 (by decide) (fun _ => ?_) (fun z => absurd q.1 z)
  refine J_iload_5 X dL_law__1678 ?_
  have KE : J K (un h2x (un hm3 (one o (oc (kca K) (if X_gives_c σ a1 a2 = 0 then vp_updL g 0 (X_gives σ a1 a2).toInt64 else g))))) [some (.ref b), some (.ref (ρ 0 0)), some (.ref m), some (.ref o), some (.int (nI i)), some (.int (lawK (X_gives_c σ a1 a2) 1 0 0)), some (.int (M_gives σ a1 a2)), none] [] 1695 (cells + 2) (slots + 12) := by
    refine J_goto (tgt := 2310) X dL_law__1695 (by decide) ?_
    refine J.subL (lv' := [some (.ref b), some (.ref (ρ 0 0)), some (.ref m), some (.ref o), some (.int (nI i)), none, none, none]) ⟨rfl, rfl, rfl, rfl, rfl, trivial⟩ ?_
    exact J.widen (show cells + 2 ≤ cells + 8 by omega) (show slots + 12 ≤ slots + 148 by omega) (k _ _ _ _ ⟨F.1, ⟨ρm, hRM2⟩, F.2.1, F.2.2, b3, ap2, b4⟩)
  refine J_if_ne (tgt := 1695) X dL_law__1680 (by decide) (fun _ => KE) (fun z => ?_)
  have z0 : X_gives_c σ a1 a2 = 0 := by
    rcases C_gives (σ := σ) (p1 := a1) (p2 := a2) with w | w
    · exact w
    · rw [w] at z; exact absurd z (by decide)
  refine J_aload_3 X dL_law__1683 ?_
  refine J_iconst (v := 0) X dL_law__1684 rfl ?_
  refine J_lald' X (N := 1) (v := (X_gives σ a1 a2).toInt64) (un_out ap2 b4) vp01 (by rw [if_pos z0]; exact updL0 _ _) dL_law__1685 ?_
  refine J_iload_6 X dL_law__1686 ?_
  refine J_i2l X dL_law__1688 ?_
  refine J_lcmp X dL_law__1689 ?_
  exact J_if_eq (tgt := 1695) X dL_law__1690 (by decide) (fun _ => KE) (fun z => absurd (lg_eq (congrArg Int32.toInt64 (q.2.1 z0).symm)) z)
theorem LC_glow {K : KT} {mn : String} {ret : Option FieldType} {tb : List ExceptionTableEntry} {w0 : Cond} {h0 : fH} {post : Option Value → fH → Prop} {px : String → fH → Prop} (X : JX K mn "NightValleyLaw" cL_law_ 8 ret tb w0 room_1 h0 post px) {b L i r m o : Nat} {xs : Nat → Int32} (S : LSc K b L i xs) : CASE K b r m o i 1698 := by
  intro hx hm g σ cells slots hLI hc hs k
  obtain ⟨⟨ρ, μ, cap, hR, hr, hcap⟩, ⟨ρm, hRM⟩, hI, hO, h1, h2, h3⟩ := hLI
  subst hr
  obtain ⟨S1, S2, S3, S4, S5⟩ := S
  generalize e1 : xs (nI i + 1).toNatClampNeg = a1
  refine J_aload_1 X dL_law__1698 ?_
  refine J_aload_0 X dL_law__1699 ?_
  refine J_iload_4 X dL_law__1700 ?_
  refine J_iconst (v := 1) X dL_law__1702 rfl ?_
  refine J_iadd X dL_law__1703 ?_
  refine J_sld X S1 S2 S3 (lin (j := 1) S5 S4 (by decide)) e1 dL_law__1704 ?_
  refine J_aload_3 X dL_law__1705 ?_
  refine J_callSW X (fr_x (c_L_glow hR hI hcap a1 h2) h1 h3) (And.intro gw_4_117 cw_L_glow) rfl (hroom2 (show cells + 1 ≤ 601024 by omega) (show slots + 6 ≤ 7293034 by omega)) (Nat.le_of_ble_eq_true rfl) dL_law__1706 rfl (fun v h' e => ?_) (fun E h' e => e.elim)
  obtain ⟨e0, h2x, hRA, ap1, ap2, e⟩ := e
  subst e0
  subst e
  show J K _ [some (.ref b), some (.ref (ρ 0 0)), some (.ref m), some (.ref o), some (.int (nI i)), none, none, none] [.int (lawK (X_glow_c σ a1) 1 0 0)] 1709 (cells + 1) (slots + 6)
  refine J_istore_5 X dL_law__1709 rfl (by decide) ?_
  refine J_aload_2 X dL_law__1711 ?_
  refine J_aload_0 X dL_law__1712 ?_
  refine J_iload_4 X dL_law__1713 ?_
  refine J_iconst (v := 1) X dL_law__1715 rfl ?_
  refine J_iadd X dL_law__1716 ?_
  refine J_sld X S1 S2 S3 (lin (j := 1) S5 S4 (by decide)) e1 dL_law__1717 ?_
  refine J_callV X (fr_m (c_M_glow hRM hI.1 a1) ap1 ap2 h3) (And.intro gw_6_62 cw_X11_glow) (un_mid_l ap1 hRM.1) rfl rfl (hroom2 (show cells + 1 ≤ 601024 by omega) (show slots + 6 ≤ 7293034 by omega)) (Nat.le_of_ble_eq_true rfl) dL_law__1718 rfl (fun v h' e => ?_) (fun E h' e => e.elim)
  obtain ⟨hm2, ⟨e0, hRM2⟩, b1, b2, e⟩ := e
  subst e0
  subst e
  show J K _ [some (.ref b), some (.ref (ρ 0 0)), some (.ref m), some (.ref o), some (.int (nI i)), some (.int (lawK (X_glow_c σ a1) 1 0 0)), none, none] [.int (M_glow σ a1)] 1721 (cells + 1) (slots + 6)
  refine J_istore_6 X dL_law__1721 rfl (by decide) ?_
  refine J_aload_2 X dL_law__1723 ?_
  refine J_callV X (fr_m (c_M_thrown hRM2) b1 ap2 b2) (And.intro gw_5_137 cw_X11_thrown) (un_mid_l b1 hRM2.1) rfl rfl (hroom2 (show cells + 1 ≤ 601024 by omega) (show slots + 6 ≤ 7293034 by omega)) (Nat.le_of_ble_eq_true rfl) dL_law__1724 rfl (fun v h' e => ?_) (fun E h' e => e.elim)
  obtain ⟨hm3, ⟨e0, e4⟩, b3, b4, e⟩ := e
  subst e0
  subst e
  subst e4
  show J K _ [some (.ref b), some (.ref (ρ 0 0)), some (.ref m), some (.ref o), some (.int (nI i)), some (.int (lawK (X_glow_c σ a1) 1 0 0)), some (.int (M_glow σ a1)), none] [.int (M_thrown (M_glow_s σ a1))] 1727 (cells + 1) (slots + 6)
  have hcx : X_glow_c σ a1 = 0 ∨ X_glow_c σ a1 = 1 ∨ X_glow_c σ a1 = 2 ∨ X_glow_c σ a1 = 3 := by
    rcases C_glow (σ := σ) (p1 := a1) with z | z <;> rw [z] <;> decide
  have q := (Q_glow hI a1).law hcx
  have F := fin3 hRA hRA hI hO (Or.inr (R_glow σ a1)) q.2.2.1 q.2.2.2 (by rw [R_glow]; exact hI) (by rw [R_glow]; exact hO)
  refine J_iload_5 X dL_law__1727 ?_
  refine J_icmp_eq (tgt := 1734) X dL_law__1729 (by decide) (fun _ => ?_) (fun z => absurd q.1 z)
  refine J_iload_5 X dL_law__1734 ?_
  have KE : J K (un h2x (un hm3 (one o (oc (kca K) (if X_glow_c σ a1 = 0 then vp_updL g 0 (X_glow σ a1).toInt64 else g))))) [some (.ref b), some (.ref (ρ 0 0)), some (.ref m), some (.ref o), some (.int (nI i)), some (.int (lawK (X_glow_c σ a1) 1 0 0)), some (.int (M_glow σ a1)), none] [] 1751 (cells + 1) (slots + 6) := by
    refine J_goto (tgt := 2310) X dL_law__1751 (by decide) ?_
    refine J.subL (lv' := [some (.ref b), some (.ref (ρ 0 0)), some (.ref m), some (.ref o), some (.int (nI i)), none, none, none]) ⟨rfl, rfl, rfl, rfl, rfl, trivial⟩ ?_
    exact J.widen (show cells + 1 ≤ cells + 8 by omega) (show slots + 6 ≤ slots + 148 by omega) (k _ _ _ _ ⟨F.1, ⟨ρm, hRM2⟩, F.2.1, F.2.2, b3, ap2, b4⟩)
  refine J_if_ne (tgt := 1751) X dL_law__1736 (by decide) (fun _ => KE) (fun z => ?_)
  have z0 : X_glow_c σ a1 = 0 := by
    rcases C_glow (σ := σ) (p1 := a1) with w | w
    · exact w
    · rw [w] at z; exact absurd z (by decide)
  refine J_aload_3 X dL_law__1739 ?_
  refine J_iconst (v := 0) X dL_law__1740 rfl ?_
  refine J_lald' X (N := 1) (v := (X_glow σ a1).toInt64) (un_out ap2 b4) vp01 (by rw [if_pos z0]; exact updL0 _ _) dL_law__1741 ?_
  refine J_iload_6 X dL_law__1742 ?_
  refine J_i2l X dL_law__1744 ?_
  refine J_lcmp X dL_law__1745 ?_
  exact J_if_eq (tgt := 1751) X dL_law__1746 (by decide) (fun _ => KE) (fun z => absurd (lg_eq (congrArg Int32.toInt64 (q.2.1 z0).symm)) z)
theorem LC_glowFrom {K : KT} {mn : String} {ret : Option FieldType} {tb : List ExceptionTableEntry} {w0 : Cond} {h0 : fH} {post : Option Value → fH → Prop} {px : String → fH → Prop} (X : JX K mn "NightValleyLaw" cL_law_ 8 ret tb w0 room_1 h0 post px) {b L i r m o : Nat} {xs : Nat → Int32} (S : LSc K b L i xs) : CASE K b r m o i 1754 := by
  intro hx hm g σ cells slots hLI hc hs k
  obtain ⟨⟨ρ, μ, cap, hR, hr, hcap⟩, ⟨ρm, hRM⟩, hI, hO, h1, h2, h3⟩ := hLI
  subst hr
  obtain ⟨S1, S2, S3, S4, S5⟩ := S
  generalize e1 : xs (nI i + 1).toNatClampNeg = a1
  generalize e2 : xs (nI i + 2).toNatClampNeg = a2
  refine J_aload_1 X dL_law__1754 ?_
  refine J_aload_0 X dL_law__1755 ?_
  refine J_iload_4 X dL_law__1756 ?_
  refine J_iconst (v := 1) X dL_law__1758 rfl ?_
  refine J_iadd X dL_law__1759 ?_
  refine J_sld X S1 S2 S3 (lin (j := 1) S5 S4 (by decide)) e1 dL_law__1760 ?_
  refine J_aload_0 X dL_law__1761 ?_
  refine J_iload_4 X dL_law__1762 ?_
  refine J_iconst (v := 2) X dL_law__1764 rfl ?_
  refine J_iadd X dL_law__1765 ?_
  refine J_sld X S1 S2 S3 (lin (j := 2) S5 S4 (by decide)) e2 dL_law__1766 ?_
  refine J_aload_3 X dL_law__1767 ?_
  refine J_callSW X (fr_x (c_L_glowFrom hR hI hcap a1 a2 h2) h1 h3) (And.intro gw_4_124 cw_L_glowFrom) rfl (hroom2 (show cells + 2 ≤ 601024 by omega) (show slots + 12 ≤ 7293034 by omega)) (Nat.le_of_ble_eq_true rfl) dL_law__1768 rfl (fun v h' e => ?_) (fun E h' e => e.elim)
  obtain ⟨e0, h2x, hRA, ap1, ap2, e⟩ := e
  subst e0
  subst e
  show J K _ [some (.ref b), some (.ref (ρ 0 0)), some (.ref m), some (.ref o), some (.int (nI i)), none, none, none] [.int (lawK (X_glowFrom_c σ a1 a2) 1 2 0)] 1771 (cells + 2) (slots + 12)
  refine J_istore_5 X dL_law__1771 rfl (by decide) ?_
  refine J_aload_2 X dL_law__1773 ?_
  refine J_aload_0 X dL_law__1774 ?_
  refine J_iload_4 X dL_law__1775 ?_
  refine J_iconst (v := 1) X dL_law__1777 rfl ?_
  refine J_iadd X dL_law__1778 ?_
  refine J_sld X S1 S2 S3 (lin (j := 1) S5 S4 (by decide)) e1 dL_law__1779 ?_
  refine J_aload_0 X dL_law__1780 ?_
  refine J_iload_4 X dL_law__1781 ?_
  refine J_iconst (v := 2) X dL_law__1783 rfl ?_
  refine J_iadd X dL_law__1784 ?_
  refine J_sld X S1 S2 S3 (lin (j := 2) S5 S4 (by decide)) e2 dL_law__1785 ?_
  refine J_callV X (fr_m (c_M_glowFrom hRM hI.1 a1 a2) ap1 ap2 h3) (And.intro gw_6_66 cw_X11_glowFrom) (un_mid_l ap1 hRM.1) rfl rfl (hroom2 (show cells + 2 ≤ 601024 by omega) (show slots + 12 ≤ 7293034 by omega)) (Nat.le_of_ble_eq_true rfl) dL_law__1786 rfl (fun v h' e => ?_) (fun E h' e => e.elim)
  obtain ⟨hm2, ⟨e0, hRM2⟩, b1, b2, e⟩ := e
  subst e0
  subst e
  show J K _ [some (.ref b), some (.ref (ρ 0 0)), some (.ref m), some (.ref o), some (.int (nI i)), some (.int (lawK (X_glowFrom_c σ a1 a2) 1 2 0)), none, none] [.int (M_glowFrom σ a1 a2)] 1789 (cells + 2) (slots + 12)
  refine J_istore_6 X dL_law__1789 rfl (by decide) ?_
  refine J_aload_2 X dL_law__1791 ?_
  refine J_callV X (fr_m (c_M_thrown hRM2) b1 ap2 b2) (And.intro gw_5_137 cw_X11_thrown) (un_mid_l b1 hRM2.1) rfl rfl (hroom2 (show cells + 2 ≤ 601024 by omega) (show slots + 12 ≤ 7293034 by omega)) (Nat.le_of_ble_eq_true rfl) dL_law__1792 rfl (fun v h' e => ?_) (fun E h' e => e.elim)
  obtain ⟨hm3, ⟨e0, e4⟩, b3, b4, e⟩ := e
  subst e0
  subst e
  subst e4
  show J K _ [some (.ref b), some (.ref (ρ 0 0)), some (.ref m), some (.ref o), some (.int (nI i)), some (.int (lawK (X_glowFrom_c σ a1 a2) 1 2 0)), some (.int (M_glowFrom σ a1 a2)), none] [.int (M_thrown (M_glowFrom_s σ a1 a2))] 1795 (cells + 2) (slots + 12)
  have hcx : X_glowFrom_c σ a1 a2 = 0 ∨ X_glowFrom_c σ a1 a2 = 1 ∨ X_glowFrom_c σ a1 a2 = 2 ∨ X_glowFrom_c σ a1 a2 = 3 := by
    rcases C_glowFrom (σ := σ) (p1 := a1) (p2 := a2) with z | z | z <;> rw [z] <;> decide
  have q := (Q_glowFrom hI a1 a2).law hcx
  have F := fin3 hRA hRA hI hO (Or.inr (R_glowFrom σ a1 a2)) q.2.2.1 q.2.2.2 (by rw [R_glowFrom]; exact hI) (by rw [R_glowFrom]; exact hO)
  refine J_iload_5 X dL_law__1795 ?_
  refine J_icmp_eq (tgt := 1802) X dL_law__1797 (by decide) (fun _ => ?_) (fun z => absurd q.1 z)
  refine J_iload_5 X dL_law__1802 ?_
  have KE : J K (un h2x (un hm3 (one o (oc (kca K) (if X_glowFrom_c σ a1 a2 = 0 then vp_updL g 0 (X_glowFrom σ a1 a2).toInt64 else g))))) [some (.ref b), some (.ref (ρ 0 0)), some (.ref m), some (.ref o), some (.int (nI i)), some (.int (lawK (X_glowFrom_c σ a1 a2) 1 2 0)), some (.int (M_glowFrom σ a1 a2)), none] [] 1819 (cells + 2) (slots + 12) := by
    refine J_goto (tgt := 2310) X dL_law__1819 (by decide) ?_
    refine J.subL (lv' := [some (.ref b), some (.ref (ρ 0 0)), some (.ref m), some (.ref o), some (.int (nI i)), none, none, none]) ⟨rfl, rfl, rfl, rfl, rfl, trivial⟩ ?_
    exact J.widen (show cells + 2 ≤ cells + 8 by omega) (show slots + 12 ≤ slots + 148 by omega) (k _ _ _ _ ⟨F.1, ⟨ρm, hRM2⟩, F.2.1, F.2.2, b3, ap2, b4⟩)
  refine J_if_ne (tgt := 1819) X dL_law__1804 (by decide) (fun _ => KE) (fun z => ?_)
  have z0 : X_glowFrom_c σ a1 a2 = 0 := by
    rcases C_glowFrom (σ := σ) (p1 := a1) (p2 := a2) with w | w | w
    · exact w
    · rw [w] at z; exact absurd z (by decide)
    · rw [w] at z; exact absurd z (by decide)
  refine J_aload_3 X dL_law__1807 ?_
  refine J_iconst (v := 0) X dL_law__1808 rfl ?_
  refine J_lald' X (N := 1) (v := (X_glowFrom σ a1 a2).toInt64) (un_out ap2 b4) vp01 (by rw [if_pos z0]; exact updL0 _ _) dL_law__1809 ?_
  refine J_iload_6 X dL_law__1810 ?_
  refine J_i2l X dL_law__1812 ?_
  refine J_lcmp X dL_law__1813 ?_
  exact J_if_eq (tgt := 1819) X dL_law__1814 (by decide) (fun _ => KE) (fun z => absurd (lg_eq (congrArg Int32.toInt64 (q.2.1 z0).symm)) z)
end
