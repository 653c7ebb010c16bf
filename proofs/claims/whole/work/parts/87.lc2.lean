noncomputable section
theorem LC_hours {K : KT} {mn : String} {ret : Option FieldType} {tb : List ExceptionTableEntry} {w0 : Cond} {h0 : fH} {post : Option Value → fH → Prop} {px : String → fH → Prop} (X : JX K mn "NightValleyLaw" cL_law_ 8 ret tb w0 room_1 h0 post px) {b L i r m o : Nat} {xs : Nat → Int32} (S : LSc K b L i xs) : CASE K b r m o i 767 := by
  intro hx hm g σ cells slots hLI hc hs k
  obtain ⟨⟨ρ, μ, cap, hR, hr, hcap⟩, ⟨ρm, hRM⟩, hI, hO, h1, h2, h3⟩ := hLI
  subst hr
  obtain ⟨S1, S2, S3, S4, S5⟩ := S
  generalize e1 : xs (nI i + 1).toNatClampNeg = a1
  generalize e2 : xs (nI i + 2).toNatClampNeg = a2
  generalize e3 : xs (nI i + 3).toNatClampNeg = a3
  refine J_aload_1 X dL_law__767 ?_
  refine J_aload_0 X dL_law__768 ?_
  refine J_iload_4 X dL_law__769 ?_
  refine J_iconst (v := 1) X dL_law__771 rfl ?_
  refine J_iadd X dL_law__772 ?_
  refine J_sld X S1 S2 S3 (lin (j := 1) S5 S4 (by decide)) e1 dL_law__773 ?_
  refine J_aload_0 X dL_law__774 ?_
  refine J_iload_4 X dL_law__775 ?_
  refine J_iconst (v := 2) X dL_law__777 rfl ?_
  refine J_iadd X dL_law__778 ?_
  refine J_sld X S1 S2 S3 (lin (j := 2) S5 S4 (by decide)) e2 dL_law__779 ?_
  refine J_aload_0 X dL_law__780 ?_
  refine J_iload_4 X dL_law__781 ?_
  refine J_iconst (v := 3) X dL_law__783 rfl ?_
  refine J_iadd X dL_law__784 ?_
  refine J_sld X S1 S2 S3 (lin (j := 3) S5 S4 (by decide)) e3 dL_law__785 ?_
  refine J_callSW X (fr_v (c_L_hours hR hI hcap a1 a2 a3) h1 h2 h3) (And.intro gw_3_89 cw_L_hours) rfl (hroom2 (show cells + 4 ≤ 601024 by omega) (show slots + 24 ≤ 7293034 by omega)) (Nat.le_of_ble_eq_true rfl) dL_law__786 rfl (fun v h' e => ?_) (fun E h' e => e.elim)
  obtain ⟨h2x, ⟨e0, hRA⟩, ap1, ap2, e⟩ := e
  subst e0
  subst e
  show J K _ [some (.ref b), some (.ref (ρ 0 0)), some (.ref m), some (.ref o), some (.int (nI i)), none, none, none] [.int (lawK (X_hours_c σ a1 a2 a3) 1 2 3)] 789 (cells + 4) (slots + 24)
  refine J_istore_5 X dL_law__789 rfl (by decide) ?_
  refine J_aload_2 X dL_law__791 ?_
  refine J_aload_0 X dL_law__792 ?_
  refine J_iload_4 X dL_law__793 ?_
  refine J_iconst (v := 1) X dL_law__795 rfl ?_
  refine J_iadd X dL_law__796 ?_
  refine J_sld X S1 S2 S3 (lin (j := 1) S5 S4 (by decide)) e1 dL_law__797 ?_
  refine J_aload_0 X dL_law__798 ?_
  refine J_iload_4 X dL_law__799 ?_
  refine J_iconst (v := 2) X dL_law__801 rfl ?_
  refine J_iadd X dL_law__802 ?_
  refine J_sld X S1 S2 S3 (lin (j := 2) S5 S4 (by decide)) e2 dL_law__803 ?_
  refine J_aload_0 X dL_law__804 ?_
  refine J_iload_4 X dL_law__805 ?_
  refine J_iconst (v := 3) X dL_law__807 rfl ?_
  refine J_iadd X dL_law__808 ?_
  refine J_sld X S1 S2 S3 (lin (j := 3) S5 S4 (by decide)) e3 dL_law__809 ?_
  refine J_callV X (fr_m (c_M_hours hRM hI.1 a1 a2 a3) ap1 ap2 h3) (And.intro gw_5_199 cw_X11_hours) (un_mid_l ap1 hRM.1) rfl rfl (hroom2 (show cells + 4 ≤ 601024 by omega) (show slots + 24 ≤ 7293034 by omega)) (Nat.le_of_ble_eq_true rfl) dL_law__810 rfl (fun v h' e => ?_) (fun E h' e => e.elim)
  obtain ⟨hm2, ⟨e0, hRM2⟩, b1, b2, e⟩ := e
  subst e0
  subst e
  show J K _ [some (.ref b), some (.ref (ρ 0 0)), some (.ref m), some (.ref o), some (.int (nI i)), some (.int (lawK (X_hours_c σ a1 a2 a3) 1 2 3)), none, none] [] 813 (cells + 4) (slots + 24)
  refine J_aload_2 X dL_law__813 ?_
  refine J_callV X (fr_m (c_M_thrown hRM2) b1 ap2 b2) (And.intro gw_5_137 cw_X11_thrown) (un_mid_l b1 hRM2.1) rfl rfl (hroom2 (show cells + 4 ≤ 601024 by omega) (show slots + 24 ≤ 7293034 by omega)) (Nat.le_of_ble_eq_true rfl) dL_law__814 rfl (fun v h' e => ?_) (fun E h' e => e.elim)
  obtain ⟨hm3, ⟨e0, e4⟩, b3, b4, e⟩ := e
  subst e0
  subst e
  subst e4
  show J K _ [some (.ref b), some (.ref (ρ 0 0)), some (.ref m), some (.ref o), some (.int (nI i)), some (.int (lawK (X_hours_c σ a1 a2 a3) 1 2 3)), none, none] [.int (M_thrown (M_hours_s σ a1 a2 a3))] 817 (cells + 4) (slots + 24)
  have hcx : X_hours_c σ a1 a2 a3 = 0 ∨ X_hours_c σ a1 a2 a3 = 1 ∨ X_hours_c σ a1 a2 a3 = 2 ∨ X_hours_c σ a1 a2 a3 = 3 := by
    rcases C_hours (σ := σ) (p1 := a1) (p2 := a2) (p3 := a3) with z | z | z | z <;> rw [z] <;> decide
  have q := (Q_hours hI a1 a2 a3).law hcx
  have F := fin3 hRA hRA hI hO (N_hours σ a1 a2 a3) q.2.2.1 q.2.2.2 (I_hours hI a1 a2 a3) (O_hours hO a1 a2 a3)
  refine J_iload_5 X dL_law__817 ?_
  refine J_icmp_eq (tgt := 824) X dL_law__819 (by decide) (fun _ => ?_) (fun z => absurd q.1 z)
  refine J_goto (tgt := 2310) X dL_law__824 (by decide) ?_
  refine J.subL (lv' := [some (.ref b), some (.ref (ρ 0 0)), some (.ref m), some (.ref o), some (.int (nI i)), none, none, none]) ⟨rfl, rfl, rfl, rfl, rfl, trivial⟩ ?_
  exact J.widen (show cells + 4 ≤ cells + 8 by omega) (show slots + 24 ≤ slots + 148 by omega) (k _ _ _ _ ⟨F.1, ⟨ρm, hRM2⟩, F.2.1, F.2.2, b3, ap2, b4⟩)
theorem LC_exempt {K : KT} {mn : String} {ret : Option FieldType} {tb : List ExceptionTableEntry} {w0 : Cond} {h0 : fH} {post : Option Value → fH → Prop} {px : String → fH → Prop} (X : JX K mn "NightValleyLaw" cL_law_ 8 ret tb w0 room_1 h0 post px) {b L i r m o : Nat} {xs : Nat → Int32} (S : LSc K b L i xs) : CASE K b r m o i 827 := by
  intro hx hm g σ cells slots hLI hc hs k
  obtain ⟨⟨ρ, μ, cap, hR, hr, hcap⟩, ⟨ρm, hRM⟩, hI, hO, h1, h2, h3⟩ := hLI
  subst hr
  obtain ⟨S1, S2, S3, S4, S5⟩ := S
  generalize e1 : xs (nI i + 1).toNatClampNeg = a1
  generalize e2 : xs (nI i + 2).toNatClampNeg = a2
  generalize f2 : zb a2 = p2
  have hp2 := zb_b f2
  refine J_aload_1 X dL_law__827 ?_
  refine J_aload_0 X dL_law__828 ?_
  refine J_iload_4 X dL_law__829 ?_
  refine J_iconst (v := 1) X dL_law__831 rfl ?_
  refine J_iadd X dL_law__832 ?_
  refine J_sld X S1 S2 S3 (lin (j := 1) S5 S4 (by decide)) e1 dL_law__833 ?_
  refine J_aload_0 X dL_law__834 ?_
  refine J_iload_4 X dL_law__835 ?_
  refine J_iconst (v := 2) X dL_law__837 rfl ?_
  refine J_iadd X dL_law__838 ?_
  refine J_sld X S1 S2 S3 (lin (j := 2) S5 S4 (by decide)) e2 dL_law__839 ?_
  refine J_bz X f2 dL_law__840 dL_law__843 dL_law__844 dL_law__847 ?_
  refine J_aload_3 X dL_law__848 ?_
  refine J_callSW X (fr_x (c_L_exempt hR hI hcap a1 p2 hp2 h2) h1 h3) (And.intro gw_3_105 cw_L_exempt) rfl (hroom2 (show cells + 1 ≤ 601024 by omega) (show slots + 6 ≤ 7293034 by omega)) (Nat.le_of_ble_eq_true rfl) dL_law__849 rfl (fun v h' e => ?_) (fun E h' e => e.elim)
  obtain ⟨e0, h2x, hRA, ap1, ap2, e⟩ := e
  subst e0
  subst e
  show J K _ [some (.ref b), some (.ref (ρ 0 0)), some (.ref m), some (.ref o), some (.int (nI i)), none, none, none] [.int (lawK (X_exempt_c σ a1 p2) 1 0 0)] 852 (cells + 1) (slots + 6)
  refine J_istore_5 X dL_law__852 rfl (by decide) ?_
  refine J_aload_2 X dL_law__854 ?_
  refine J_aload_0 X dL_law__855 ?_
  refine J_iload_4 X dL_law__856 ?_
  refine J_iconst (v := 1) X dL_law__858 rfl ?_
  refine J_iadd X dL_law__859 ?_
  refine J_sld X S1 S2 S3 (lin (j := 1) S5 S4 (by decide)) e1 dL_law__860 ?_
  refine J_aload_0 X dL_law__861 ?_
  refine J_iload_4 X dL_law__862 ?_
  refine J_iconst (v := 2) X dL_law__864 rfl ?_
  refine J_iadd X dL_law__865 ?_
  refine J_sld X S1 S2 S3 (lin (j := 2) S5 S4 (by decide)) e2 dL_law__866 ?_
  refine J_bz X f2 dL_law__867 dL_law__870 dL_law__871 dL_law__874 ?_
  refine J_callV X (fr_m (c_M_exempt hRM hI.1 a1 p2 hp2) ap1 ap2 h3) (And.intro gw_5_211 cw_X11_exempt) (un_mid_l ap1 hRM.1) rfl rfl (hroom2 (show cells + 1 ≤ 601024 by omega) (show slots + 6 ≤ 7293034 by omega)) (Nat.le_of_ble_eq_true rfl) dL_law__875 rfl (fun v h' e => ?_) (fun E h' e => e.elim)
  obtain ⟨hm2, ⟨e0, hRM2⟩, b1, b2, e⟩ := e
  subst e0
  subst e
  show J K _ [some (.ref b), some (.ref (ρ 0 0)), some (.ref m), some (.ref o), some (.int (nI i)), some (.int (lawK (X_exempt_c σ a1 p2) 1 0 0)), none, none] [.int (M_exempt σ a1 p2)] 878 (cells + 1) (slots + 6)
  refine J_istore_6 X dL_law__878 rfl (by decide) ?_
  refine J_aload_2 X dL_law__880 ?_
  refine J_callV X (fr_m (c_M_thrown hRM2) b1 ap2 b2) (And.intro gw_5_137 cw_X11_thrown) (un_mid_l b1 hRM2.1) rfl rfl (hroom2 (show cells + 1 ≤ 601024 by omega) (show slots + 6 ≤ 7293034 by omega)) (Nat.le_of_ble_eq_true rfl) dL_law__881 rfl (fun v h' e => ?_) (fun E h' e => e.elim)
  obtain ⟨hm3, ⟨e0, e4⟩, b3, b4, e⟩ := e
  subst e0
  subst e
  subst e4
  show J K _ [some (.ref b), some (.ref (ρ 0 0)), some (.ref m), some (.ref o), some (.int (nI i)), some (.int (lawK (X_exempt_c σ a1 p2) 1 0 0)), some (.int (M_exempt σ a1 p2)), none] [.int (M_thrown (M_exempt_s σ a1 p2))] 884 (cells + 1) (slots + 6)
  have hcx : X_exempt_c σ a1 p2 = 0 ∨ X_exempt_c σ a1 p2 = 1 ∨ X_exempt_c σ a1 p2 = 2 ∨ X_exempt_c σ a1 p2 = 3 := by
    rcases C_exempt (σ := σ) (p1 := a1) (p2 := p2) with z | z <;> rw [z] <;> decide
  have q := (Q_exempt hI a1 p2).law hcx
  have F := fin3 hRA hRA hI hO (N_exempt σ a1 p2) q.2.2.1 q.2.2.2 (I_exempt hI a1 hp2) (O_exempt hO a1 p2)
  refine J_iload_5 X dL_law__884 ?_
  refine J_icmp_eq (tgt := 891) X dL_law__886 (by decide) (fun _ => ?_) (fun z => absurd q.1 z)
  refine J_iload_5 X dL_law__891 ?_
  have KE : J K (un h2x (un hm3 (one o (oc (kca K) (if X_exempt_c σ a1 p2 = 0 then vp_updL g 0 (if X_exempt σ a1 p2 = 0 then (0 : Int64) else 1) else g))))) [some (.ref b), some (.ref (ρ 0 0)), some (.ref m), some (.ref o), some (.int (nI i)), some (.int (lawK (X_exempt_c σ a1 p2) 1 0 0)), some (.int (M_exempt σ a1 p2)), none] [] 915 (cells + 1) (slots + 6) := by
    refine J_goto (tgt := 2310) X dL_law__915 (by decide) ?_
    refine J.subL (lv' := [some (.ref b), some (.ref (ρ 0 0)), some (.ref m), some (.ref o), some (.int (nI i)), none, none, none]) ⟨rfl, rfl, rfl, rfl, rfl, trivial⟩ ?_
    exact J.widen (show cells + 1 ≤ cells + 8 by omega) (show slots + 6 ≤ slots + 148 by omega) (k _ _ _ _ ⟨F.1, ⟨ρm, hRM2⟩, F.2.1, F.2.2, b3, ap2, b4⟩)
  refine J_if_ne (tgt := 915) X dL_law__893 (by decide) (fun _ => KE) (fun z => ?_)
  have z0 : X_exempt_c σ a1 p2 = 0 := by
    rcases C_exempt (σ := σ) (p1 := a1) (p2 := p2) with w | w
    · exact w
    · rw [w] at z; exact absurd z (by decide)
  refine J_aload_3 X dL_law__896 ?_
  refine J_iconst (v := 0) X dL_law__897 rfl ?_
  refine J_lald' X (N := 1) (v := (zl (X_exempt σ a1 p2))) (un_out ap2 b4) vp01 (by rw [if_pos z0]; exact updL0 _ _) dL_law__898 ?_
  refine J_iload_6 X dL_law__899 ?_
  refine J_bl X dL_law__901 dL_law__904 dL_law__905 dL_law__908 ?_
  refine J_lcmp X dL_law__909 ?_
  exact J_if_eq (tgt := 915) X dL_law__910 (by decide) (fun _ => KE) (fun z => absurd (lg_eq (congrArg zl (q.2.1 z0).symm)) z)
theorem LC_outage {K : KT} {mn : String} {ret : Option FieldType} {tb : List ExceptionTableEntry} {w0 : Cond} {h0 : fH} {post : Option Value → fH → Prop} {px : String → fH → Prop} (X : JX K mn "NightValleyLaw" cL_law_ 8 ret tb w0 room_1 h0 post px) {b L i r m o : Nat} {xs : Nat → Int32} (S : LSc K b L i xs) : CASE K b r m o i 918 := by
  intro hx hm g σ cells slots hLI hc hs k
  obtain ⟨⟨ρ, μ, cap, hR, hr, hcap⟩, ⟨ρm, hRM⟩, hI, hO, h1, h2, h3⟩ := hLI
  subst hr
  obtain ⟨S1, S2, S3, S4, S5⟩ := S
  generalize e1 : xs (nI i + 1).toNatClampNeg = a1
  generalize e2 : xs (nI i + 2).toNatClampNeg = a2
  refine J_aload_1 X dL_law__918 ?_
  refine J_aload_0 X dL_law__919 ?_
  refine J_iload_4 X dL_law__920 ?_
  refine J_iconst (v := 1) X dL_law__922 rfl ?_
  refine J_iadd X dL_law__923 ?_
  refine J_sld X S1 S2 S3 (lin (j := 1) S5 S4 (by decide)) e1 dL_law__924 ?_
  refine J_aload_0 X dL_law__925 ?_
  refine J_iload_4 X dL_law__926 ?_
  refine J_iconst (v := 2) X dL_law__928 rfl ?_
  refine J_iadd X dL_law__929 ?_
  refine J_sld X S1 S2 S3 (lin (j := 2) S5 S4 (by decide)) e2 dL_law__930 ?_
  refine J_aload_3 X dL_law__931 ?_
  refine J_callSW X (fr_x (c_L_outage hR hI hcap a1 a2 h2) h1 h3) (And.intro gw_3_112 cw_L_outage) rfl (hroom2 (show cells + 2 ≤ 601024 by omega) (show slots + 12 ≤ 7293034 by omega)) (Nat.le_of_ble_eq_true rfl) dL_law__932 rfl (fun v h' e => ?_) (fun E h' e => e.elim)
  obtain ⟨e0, h2x, hRA, ap1, ap2, e⟩ := e
  subst e0
  subst e
  show J K _ [some (.ref b), some (.ref (ρ 0 0)), some (.ref m), some (.ref o), some (.int (nI i)), none, none, none] [.int (lawK (X_outage_c σ a1 a2) 1 2 0)] 935 (cells + 2) (slots + 12)
  refine J_istore_5 X dL_law__935 rfl (by decide) ?_
  refine J_aload_2 X dL_law__937 ?_
  refine J_aload_0 X dL_law__938 ?_
  refine J_iload_4 X dL_law__939 ?_
  refine J_iconst (v := 1) X dL_law__941 rfl ?_
  refine J_iadd X dL_law__942 ?_
  refine J_sld X S1 S2 S3 (lin (j := 1) S5 S4 (by decide)) e1 dL_law__943 ?_
  refine J_aload_0 X dL_law__944 ?_
  refine J_iload_4 X dL_law__945 ?_
  refine J_iconst (v := 2) X dL_law__947 rfl ?_
  refine J_iadd X dL_law__948 ?_
  refine J_sld X S1 S2 S3 (lin (j := 2) S5 S4 (by decide)) e2 dL_law__949 ?_
  refine J_callV X (fr_m (c_M_outage hRM hI.1 a1 a2) ap1 ap2 h3) (And.intro gw_5_215 cw_X11_outage) (un_mid_l ap1 hRM.1) rfl rfl (hroom2 (show cells + 2 ≤ 601024 by omega) (show slots + 12 ≤ 7293034 by omega)) (Nat.le_of_ble_eq_true rfl) dL_law__950 rfl (fun v h' e => ?_) (fun E h' e => e.elim)
  obtain ⟨hm2, ⟨e0, hRM2⟩, b1, b2, e⟩ := e
  subst e0
  subst e
  show J K _ [some (.ref b), some (.ref (ρ 0 0)), some (.ref m), some (.ref o), some (.int (nI i)), some (.int (lawK (X_outage_c σ a1 a2) 1 2 0)), none, none] [.int (M_outage σ a1 a2)] 953 (cells + 2) (slots + 12)
  refine J_istore_6 X dL_law__953 rfl (by decide) ?_
  refine J_aload_2 X dL_law__955 ?_
  refine J_callV X (fr_m (c_M_thrown hRM2) b1 ap2 b2) (And.intro gw_5_137 cw_X11_thrown) (un_mid_l b1 hRM2.1) rfl rfl (hroom2 (show cells + 2 ≤ 601024 by omega) (show slots + 12 ≤ 7293034 by omega)) (Nat.le_of_ble_eq_true rfl) dL_law__956 rfl (fun v h' e => ?_) (fun E h' e => e.elim)
  obtain ⟨hm3, ⟨e0, e4⟩, b3, b4, e⟩ := e
  subst e0
  subst e
  subst e4
  show J K _ [some (.ref b), some (.ref (ρ 0 0)), some (.ref m), some (.ref o), some (.int (nI i)), some (.int (lawK (X_outage_c σ a1 a2) 1 2 0)), some (.int (M_outage σ a1 a2)), none] [.int (M_thrown (M_outage_s σ a1 a2))] 959 (cells + 2) (slots + 12)
  have hcx : X_outage_c σ a1 a2 = 0 ∨ X_outage_c σ a1 a2 = 1 ∨ X_outage_c σ a1 a2 = 2 ∨ X_outage_c σ a1 a2 = 3 := by
    rcases C_outage (σ := σ) (p1 := a1) (p2 := a2) with z | z | z <;> rw [z] <;> decide
  have q := (Q_outage hI a1 a2).law hcx
  have F := fin3 hRA hRA hI hO (N_outage σ a1 a2) q.2.2.1 q.2.2.2 (I_outage hI a1 a2) (O_outage hO a1 a2)
  refine J_iload_5 X dL_law__959 ?_
  refine J_icmp_eq (tgt := 966) X dL_law__961 (by decide) (fun _ => ?_) (fun z => absurd q.1 z)
  refine J_iload_5 X dL_law__966 ?_
  have KE : J K (un h2x (un hm3 (one o (oc (kca K) (if X_outage_c σ a1 a2 = 0 then vp_updL g 0 (X_outage σ a1 a2).toInt64 else g))))) [some (.ref b), some (.ref (ρ 0 0)), some (.ref m), some (.ref o), some (.int (nI i)), some (.int (lawK (X_outage_c σ a1 a2) 1 2 0)), some (.int (M_outage σ a1 a2)), none] [] 983 (cells + 2) (slots + 12) := by
    refine J_goto (tgt := 2310) X dL_law__983 (by decide) ?_
    refine J.subL (lv' := [some (.ref b), some (.ref (ρ 0 0)), some (.ref m), some (.ref o), some (.int (nI i)), none, none, none]) ⟨rfl, rfl, rfl, rfl, rfl, trivial⟩ ?_
    exact J.widen (show cells + 2 ≤ cells + 8 by omega) (show slots + 12 ≤ slots + 148 by omega) (k _ _ _ _ ⟨F.1, ⟨ρm, hRM2⟩, F.2.1, F.2.2, b3, ap2, b4⟩)
  refine J_if_ne (tgt := 983) X dL_law__968 (by decide) (fun _ => KE) (fun z => ?_)
  have z0 : X_outage_c σ a1 a2 = 0 := by
    rcases C_outage (σ := σ) (p1 := a1) (p2 := a2) with w | w | w
    · exact w
    · rw [w] at z; exact absurd z (by decide)
    · rw [w] at z; exact absurd z (by decide)
  refine J_aload_3 X dL_law__971 ?_
  refine J_iconst (v := 0) X dL_law__972 rfl ?_
  refine J_lald' X (N := 1) (v := (X_outage σ a1 a2).toInt64) (un_out ap2 b4) vp01 (by rw [if_pos z0]; exact updL0 _ _) dL_law__973 ?_
  refine J_iload_6 X dL_law__974 ?_
  refine J_i2l X dL_law__976 ?_
  refine J_lcmp X dL_law__977 ?_
  exact J_if_eq (tgt := 983) X dL_law__978 (by decide) (fun _ => KE) (fun z => absurd (lg_eq (congrArg Int32.toInt64 (q.2.1 z0).symm)) z)
theorem LC_vote {K : KT} {mn : String} {ret : Option FieldType} {tb : List ExceptionTableEntry} {w0 : Cond} {h0 : fH} {post : Option Value → fH → Prop} {px : String → fH → Prop} (X : JX K mn "NightValleyLaw" cL_law_ 8 ret tb w0 room_1 h0 post px) {b L i r m o : Nat} {xs : Nat → Int32} (S : LSc K b L i xs) : CASE K b r m o i 986 := by
  intro hx hm g σ cells slots hLI hc hs k
  obtain ⟨⟨ρ, μ, cap, hR, hr, hcap⟩, ⟨ρm, hRM⟩, hI, hO, h1, h2, h3⟩ := hLI
  subst hr
  obtain ⟨S1, S2, S3, S4, S5⟩ := S
  generalize e1 : xs (nI i + 1).toNatClampNeg = a1
  generalize e2 : xs (nI i + 2).toNatClampNeg = a2
  generalize e3 : xs (nI i + 3).toNatClampNeg = a3
  generalize e4 : xs (nI i + 4).toNatClampNeg = a4
  generalize e5 : xs (nI i + 5).toNatClampNeg = a5
  refine J_aload_1 X dL_law__986 ?_
  refine J_aload_0 X dL_law__987 ?_
  refine J_iload_4 X dL_law__988 ?_
  refine J_iconst (v := 1) X dL_law__990 rfl ?_
  refine J_iadd X dL_law__991 ?_
  refine J_sld X S1 S2 S3 (lin (j := 1) S5 S4 (by decide)) e1 dL_law__992 ?_
  refine J_aload_0 X dL_law__993 ?_
  refine J_iload_4 X dL_law__994 ?_
  refine J_iconst (v := 2) X dL_law__996 rfl ?_
  refine J_iadd X dL_law__997 ?_
  refine J_sld X S1 S2 S3 (lin (j := 2) S5 S4 (by decide)) e2 dL_law__998 ?_
  refine J_aload_0 X dL_law__999 ?_
  refine J_iload_4 X dL_law__1000 ?_
  refine J_iconst (v := 3) X dL_law__1002 rfl ?_
  refine J_iadd X dL_law__1003 ?_
  refine J_sld X S1 S2 S3 (lin (j := 3) S5 S4 (by decide)) e3 dL_law__1004 ?_
  refine J_aload_0 X dL_law__1005 ?_
  refine J_iload_4 X dL_law__1006 ?_
  refine J_iconst (v := 4) X dL_law__1008 rfl ?_
  refine J_iadd X dL_law__1009 ?_
  refine J_sld X S1 S2 S3 (lin (j := 4) S5 S4 (by decide)) e4 dL_law__1010 ?_
  refine J_aload_0 X dL_law__1011 ?_
  refine J_iload_4 X dL_law__1012 ?_
  refine J_iconst (v := 5) X dL_law__1014 rfl ?_
  refine J_iadd X dL_law__1015 ?_
  refine J_sld X S1 S2 S3 (lin (j := 5) S5 S4 (by decide)) e5 dL_law__1016 ?_
  refine J_aload_3 X dL_law__1017 ?_
  refine J_callSW X (fr_x (c_L_vote hR hI hcap a1 a2 a3 a4 a5 h2) h1 h3) (And.intro gw_3_120 cw_L_vote) rfl (hroom2 (show cells + 8 ≤ 601024 by omega) (show slots + 48 ≤ 7293034 by omega)) (Nat.le_of_ble_eq_true rfl) dL_law__1018 rfl (fun v h' e => ?_) (fun E h' e => e.elim)
  obtain ⟨e0, h2x, hRA, ap1, ap2, e⟩ := e
  subst e0
  subst e
  show J K _ [some (.ref b), some (.ref (ρ 0 0)), some (.ref m), some (.ref o), some (.int (nI i)), none, none, none] [.int (lawK (X_vote_c σ a1 a2 a3 a4 a5) 1 2 3)] 1021 (cells + 8) (slots + 48)
  refine J_istore_5 X dL_law__1021 rfl (by decide) ?_
  refine J_aload_2 X dL_law__1023 ?_
  refine J_aload_0 X dL_law__1024 ?_
  refine J_iload_4 X dL_law__1025 ?_
  refine J_iconst (v := 1) X dL_law__1027 rfl ?_
  refine J_iadd X dL_law__1028 ?_
  refine J_sld X S1 S2 S3 (lin (j := 1) S5 S4 (by decide)) e1 dL_law__1029 ?_
  refine J_aload_0 X dL_law__1030 ?_
  refine J_iload_4 X dL_law__1031 ?_
  refine J_iconst (v := 2) X dL_law__1033 rfl ?_
  refine J_iadd X dL_law__1034 ?_
  refine J_sld X S1 S2 S3 (lin (j := 2) S5 S4 (by decide)) e2 dL_law__1035 ?_
  refine J_aload_0 X dL_law__1036 ?_
  refine J_iload_4 X dL_law__1037 ?_
  refine J_iconst (v := 3) X dL_law__1039 rfl ?_
  refine J_iadd X dL_law__1040 ?_
  refine J_sld X S1 S2 S3 (lin (j := 3) S5 S4 (by decide)) e3 dL_law__1041 ?_
  refine J_aload_0 X dL_law__1042 ?_
  refine J_iload_4 X dL_law__1043 ?_
  refine J_iconst (v := 4) X dL_law__1045 rfl ?_
  refine J_iadd X dL_law__1046 ?_
  refine J_sld X S1 S2 S3 (lin (j := 4) S5 S4 (by decide)) e4 dL_law__1047 ?_
  refine J_aload_0 X dL_law__1048 ?_
  refine J_iload_4 X dL_law__1049 ?_
  refine J_iconst (v := 5) X dL_law__1051 rfl ?_
  refine J_iadd X dL_law__1052 ?_
  refine J_sld X S1 S2 S3 (lin (j := 5) S5 S4 (by decide)) e5 dL_law__1053 ?_
  refine J_callV X (fr_m (c_M_vote hRM hI.1 a1 a2 a3 a4 a5) ap1 ap2 h3) (And.intro gw_5_219 cw_X11_vote) (un_mid_l ap1 hRM.1) rfl rfl (hroom2 (show cells + 8 ≤ 601024 by omega) (show slots + 48 ≤ 7293034 by omega)) (Nat.le_of_ble_eq_true rfl) dL_law__1054 rfl (fun v h' e => ?_) (fun E h' e => e.elim)
  obtain ⟨hm2, ⟨e0, hRM2⟩, b1, b2, e⟩ := e
  subst e0
  subst e
  show J K _ [some (.ref b), some (.ref (ρ 0 0)), some (.ref m), some (.ref o), some (.int (nI i)), some (.int (lawK (X_vote_c σ a1 a2 a3 a4 a5) 1 2 3)), none, none] [.int (M_vote σ a1 a2 a3 a4 a5)] 1057 (cells + 8) (slots + 48)
  refine J_istore_6 X dL_law__1057 rfl (by decide) ?_
  refine J_aload_2 X dL_law__1059 ?_
  refine J_callV X (fr_m (c_M_thrown hRM2) b1 ap2 b2) (And.intro gw_5_137 cw_X11_thrown) (un_mid_l b1 hRM2.1) rfl rfl (hroom2 (show cells + 8 ≤ 601024 by omega) (show slots + 48 ≤ 7293034 by omega)) (Nat.le_of_ble_eq_true rfl) dL_law__1060 rfl (fun v h' e => ?_) (fun E h' e => e.elim)
  obtain ⟨hm3, ⟨e0, e4⟩, b3, b4, e⟩ := e
  subst e0
  subst e
  subst e4
  show J K _ [some (.ref b), some (.ref (ρ 0 0)), some (.ref m), some (.ref o), some (.int (nI i)), some (.int (lawK (X_vote_c σ a1 a2 a3 a4 a5) 1 2 3)), some (.int (M_vote σ a1 a2 a3 a4 a5)), none] [.int (M_thrown (M_vote_s σ a1 a2 a3 a4 a5))] 1063 (cells + 8) (slots + 48)
  have hcx : X_vote_c σ a1 a2 a3 a4 a5 = 0 ∨ X_vote_c σ a1 a2 a3 a4 a5 = 1 ∨ X_vote_c σ a1 a2 a3 a4 a5 = 2 ∨ X_vote_c σ a1 a2 a3 a4 a5 = 3 := by
    rcases C_vote (σ := σ) (p1 := a1) (p2 := a2) (p3 := a3) (p4 := a4) (p5 := a5) with z | z | z | z <;> rw [z] <;> decide
  have q := (Q_vote hI a1 a2 a3 a4 a5).law hcx
  have F := fin3 hRA hRA hI hO (N_vote σ a1 a2 a3 a4 a5) q.2.2.1 q.2.2.2 (I_vote hI a1 a2 a3 a4 a5) (O_vote hO a1 a2 a3 a4 a5)
  refine J_iload_5 X dL_law__1063 ?_
  refine J_icmp_eq (tgt := 1070) X dL_law__1065 (by decide) (fun _ => ?_) (fun z => absurd q.1 z)
  refine J_iload_5 X dL_law__1070 ?_
  have KE : J K (un h2x (un hm3 (one o (oc (kca K) (if X_vote_c σ a1 a2 a3 a4 a5 = 0 then vp_updL g 0 (X_vote σ a1 a2 a3 a4 a5).toInt64 else g))))) [some (.ref b), some (.ref (ρ 0 0)), some (.ref m), some (.ref o), some (.int (nI i)), some (.int (lawK (X_vote_c σ a1 a2 a3 a4 a5) 1 2 3)), some (.int (M_vote σ a1 a2 a3 a4 a5)), none] [] 1087 (cells + 8) (slots + 48) := by
    refine J_goto (tgt := 2310) X dL_law__1087 (by decide) ?_
    refine J.subL (lv' := [some (.ref b), some (.ref (ρ 0 0)), some (.ref m), some (.ref o), some (.int (nI i)), none, none, none]) ⟨rfl, rfl, rfl, rfl, rfl, trivial⟩ ?_
    exact J.widen (show cells + 8 ≤ cells + 8 by omega) (show slots + 48 ≤ slots + 148 by omega) (k _ _ _ _ ⟨F.1, ⟨ρm, hRM2⟩, F.2.1, F.2.2, b3, ap2, b4⟩)
  refine J_if_ne (tgt := 1087) X dL_law__1072 (by decide) (fun _ => KE) (fun z => ?_)
  have z0 : X_vote_c σ a1 a2 a3 a4 a5 = 0 := by
    rcases C_vote (σ := σ) (p1 := a1) (p2 := a2) (p3 := a3) (p4 := a4) (p5 := a5) with w | w | w | w
    · exact w
    · rw [w] at z; exact absurd z (by decide)
    · rw [w] at z; exact absurd z (by decide)
    · rw [w] at z; exact absurd z (by decide)
  refine J_aload_3 X dL_law__1075 ?_
  refine J_iconst (v := 0) X dL_law__1076 rfl ?_
  refine J_lald' X (N := 1) (v := (X_vote σ a1 a2 a3 a4 a5).toInt64) (un_out ap2 b4) vp01 (by rw [if_pos z0]; exact updL0 _ _) dL_law__1077 ?_
  refine J_iload_6 X dL_law__1078 ?_
  refine J_i2l X dL_law__1080 ?_
  refine J_lcmp X dL_law__1081 ?_
  exact J_if_eq (tgt := 1087) X dL_law__1082 (by decide) (fun _ => KE) (fun z => absurd (lg_eq (congrArg Int32.toInt64 (q.2.1 z0).symm)) z)
theorem LC_inspect {K : KT} {mn : String} {ret : Option FieldType} {tb : List ExceptionTableEntry} {w0 : Cond} {h0 : fH} {post : Option Value → fH → Prop} {px : String → fH → Prop} (X : JX K mn "NightValleyLaw" cL_law_ 8 ret tb w0 room_1 h0 post px) {b L i r m o : Nat} {xs : Nat → Int32} (S : LSc K b L i xs) : CASE K b r m o i 1090 := by
  intro hx hm g σ cells slots hLI hc hs k
  obtain ⟨⟨ρ, μ, cap, hR, hr, hcap⟩, ⟨ρm, hRM⟩, hI, hO, h1, h2, h3⟩ := hLI
  subst hr
  obtain ⟨S1, S2, S3, S4, S5⟩ := S
  generalize e1 : xs (nI i + 1).toNatClampNeg = a1
  refine J_aload_1 X dL_law__1090 ?_
  refine J_aload_0 X dL_law__1091 ?_
  refine J_iload_4 X dL_law__1092 ?_
  refine J_iconst (v := 1) X dL_law__1094 rfl ?_
  refine J_iadd X dL_law__1095 ?_
  refine J_sld X S1 S2 S3 (lin (j := 1) S5 S4 (by decide)) e1 dL_law__1096 ?_
  refine J_aload_3 X dL_law__1097 ?_
  refine J_callSW X (fr_x (c_L_inspect hR hI hcap a1 h2) h1 h3) (And.intro gw_3_139 cw_L_inspect) rfl (hroom2 (show cells + 1 ≤ 601024 by omega) (show slots + 6 ≤ 7293034 by omega)) (Nat.le_of_ble_eq_true rfl) dL_law__1098 rfl (fun v h' e => ?_) (fun E h' e => e.elim)
  obtain ⟨e0, h2x, hRA, ap1, ap2, e⟩ := e
  subst e0
  subst e
  show J K _ [some (.ref b), some (.ref (ρ 0 0)), some (.ref m), some (.ref o), some (.int (nI i)), none, none, none] [.int (lawK (X_inspect_c σ a1) 1 0 0)] 1101 (cells + 1) (slots + 6)
  refine J_istore_5 X dL_law__1101 rfl (by decide) ?_
  refine J_aload_2 X dL_law__1103 ?_
  refine J_aload_0 X dL_law__1104 ?_
  refine J_iload_4 X dL_law__1105 ?_
  refine J_iconst (v := 1) X dL_law__1107 rfl ?_
  refine J_iadd X dL_law__1108 ?_
  refine J_sld X S1 S2 S3 (lin (j := 1) S5 S4 (by decide)) e1 dL_law__1109 ?_
  refine J_callV X (fr_m (c_M_inspect hRM hI.1 a1) ap1 ap2 h3) (And.intro gw_5_223 cw_X11_inspect) (un_mid_l ap1 hRM.1) rfl rfl (hroom2 (show cells + 1 ≤ 601024 by omega) (show slots + 6 ≤ 7293034 by omega)) (Nat.le_of_ble_eq_true rfl) dL_law__1110 rfl (fun v h' e => ?_) (fun E h' e => e.elim)
  obtain ⟨hm2, ⟨e0, hRM2⟩, b1, b2, e⟩ := e
  subst e0
  subst e
  show J K _ [some (.ref b), some (.ref (ρ 0 0)), some (.ref m), some (.ref o), some (.int (nI i)), some (.int (lawK (X_inspect_c σ a1) 1 0 0)), none, none] [.int (M_inspect σ a1)] 1113 (cells + 1) (slots + 6)
  refine J_istore_6 X dL_law__1113 rfl (by decide) ?_
  refine J_aload_2 X dL_law__1115 ?_
  refine J_callV X (fr_m (c_M_thrown hRM2) b1 ap2 b2) (And.intro gw_5_137 cw_X11_thrown) (un_mid_l b1 hRM2.1) rfl rfl (hroom2 (show cells + 1 ≤ 601024 by omega) (show slots + 6 ≤ 7293034 by omega)) (Nat.le_of_ble_eq_true rfl) dL_law__1116 rfl (fun v h' e => ?_) (fun E h' e => e.elim)
  obtain ⟨hm3, ⟨e0, e4⟩, b3, b4, e⟩ := e
  subst e0
  subst e
  subst e4
  show J K _ [some (.ref b), some (.ref (ρ 0 0)), some (.ref m), some (.ref o), some (.int (nI i)), some (.int (lawK (X_inspect_c σ a1) 1 0 0)), some (.int (M_inspect σ a1)), none] [.int (M_thrown (M_inspect_s σ a1))] 1119 (cells + 1) (slots + 6)
  have hcx : X_inspect_c σ a1 = 0 ∨ X_inspect_c σ a1 = 1 ∨ X_inspect_c σ a1 = 2 ∨ X_inspect_c σ a1 = 3 := by
    rcases C_inspect (σ := σ) (p1 := a1) with z | z <;> rw [z] <;> decide
  have q := ((Q_inspect hI a1).1).law hcx
  have F := fin3 hRA hRA hI hO (N_inspect σ a1) q.2.2.1 q.2.2.2 (Q_inspect hI a1).2 (O_inspect hO a1)
  refine J_iload_5 X dL_law__1119 ?_
  refine J_icmp_eq (tgt := 1126) X dL_law__1121 (by decide) (fun _ => ?_) (fun z => absurd q.1 z)
  refine J_iload_5 X dL_law__1126 ?_
  have KE : J K (un h2x (un hm3 (one o (oc (kca K) (if X_inspect_c σ a1 = 0 then vp_updL g 0 (X_inspect σ a1).toInt64 else g))))) [some (.ref b), some (.ref (ρ 0 0)), some (.ref m), some (.ref o), some (.int (nI i)), some (.int (lawK (X_inspect_c σ a1) 1 0 0)), some (.int (M_inspect σ a1)), none] [] 1143 (cells + 1) (slots + 6) := by
    refine J_goto (tgt := 2310) X dL_law__1143 (by decide) ?_
    refine J.subL (lv' := [some (.ref b), some (.ref (ρ 0 0)), some (.ref m), some (.ref o), some (.int (nI i)), none, none, none]) ⟨rfl, rfl, rfl, rfl, rfl, trivial⟩ ?_
    exact J.widen (show cells + 1 ≤ cells + 8 by omega) (show slots + 6 ≤ slots + 148 by omega) (k _ _ _ _ ⟨F.1, ⟨ρm, hRM2⟩, F.2.1, F.2.2, b3, ap2, b4⟩)
  refine J_if_ne (tgt := 1143) X dL_law__1128 (by decide) (fun _ => KE) (fun z => ?_)
  have z0 : X_inspect_c σ a1 = 0 := by
    rcases C_inspect (σ := σ) (p1 := a1) with w | w
    · exact w
    · rw [w] at z; exact absurd z (by decide)
  refine J_aload_3 X dL_law__1131 ?_
  refine J_iconst (v := 0) X dL_law__1132 rfl ?_
  refine J_lald' X (N := 1) (v := (X_inspect σ a1).toInt64) (un_out ap2 b4) vp01 (by rw [if_pos z0]; exact updL0 _ _) dL_law__1133 ?_
  refine J_iload_6 X dL_law__1134 ?_
  refine J_i2l X dL_law__1136 ?_
  refine J_lcmp X dL_law__1137 ?_
  exact J_if_eq (tgt := 1143) X dL_law__1138 (by decide) (fun _ => KE) (fun z => absurd (lg_eq (congrArg Int32.toInt64 (q.2.1 z0).symm)) z)
theorem LC_meter {K : KT} {mn : String} {ret : Option FieldType} {tb : List ExceptionTableEntry} {w0 : Cond} {h0 : fH} {post : Option Value → fH → Prop} {px : String → fH → Prop} (X : JX K mn "NightValleyLaw" cL_law_ 8 ret tb w0 room_1 h0 post px) {b L i r m o : Nat} {xs : Nat → Int32} (S : LSc K b L i xs) : CASE K b r m o i 1146 := by
  intro hx hm g σ cells slots hLI hc hs k
  obtain ⟨⟨ρ, μ, cap, hR, hr, hcap⟩, ⟨ρm, hRM⟩, hI, hO, h1, h2, h3⟩ := hLI
  subst hr
  obtain ⟨S1, S2, S3, S4, S5⟩ := S
  generalize e1 : xs (nI i + 1).toNatClampNeg = a1
  generalize e2 : xs (nI i + 2).toNatClampNeg = a2
  generalize e3 : xs (nI i + 3).toNatClampNeg = a3
  refine J_aload_1 X dL_law__1146 ?_
  refine J_aload_0 X dL_law__1147 ?_
  refine J_iload_4 X dL_law__1148 ?_
  refine J_iconst (v := 1) X dL_law__1150 rfl ?_
  refine J_iadd X dL_law__1151 ?_
  refine J_sld X S1 S2 S3 (lin (j := 1) S5 S4 (by decide)) e1 dL_law__1152 ?_
  refine J_aload_0 X dL_law__1153 ?_
  refine J_iload_4 X dL_law__1154 ?_
  refine J_iconst (v := 2) X dL_law__1156 rfl ?_
  refine J_iadd X dL_law__1157 ?_
  refine J_sld X S1 S2 S3 (lin (j := 2) S5 S4 (by decide)) e2 dL_law__1158 ?_
  refine J_aload_0 X dL_law__1159 ?_
  refine J_iload_4 X dL_law__1160 ?_
  refine J_iconst (v := 3) X dL_law__1162 rfl ?_
  refine J_iadd X dL_law__1163 ?_
  refine J_sld X S1 S2 S3 (lin (j := 3) S5 S4 (by decide)) e3 dL_law__1164 ?_
  refine J_aload_3 X dL_law__1165 ?_
  refine J_callSW X (fr_x (c_L_meter hR hI hcap a1 a2 a3 h2) h1 h3) (And.intro gw_3_154 cw_L_meter) rfl (hroom2 (show cells + 7 ≤ 601024 by omega) (show slots + 132 ≤ 7293034 by omega)) (Nat.le_of_ble_eq_true rfl) dL_law__1166 rfl (fun v h' e => ?_) (fun E h' e => e.elim)
  obtain ⟨e0, h2x, hRA, ap1, ap2, e⟩ := e
  subst e0
  subst e
  show J K _ [some (.ref b), some (.ref (ρ 0 0)), some (.ref m), some (.ref o), some (.int (nI i)), none, none, none] [.int (lawK (X_meter_c σ a1 a2 a3) 1 2 3)] 1169 (cells + 7) (slots + 132)
  refine J_istore_5 X dL_law__1169 rfl (by decide) ?_
  refine J_aload_2 X dL_law__1171 ?_
  refine J_aload_0 X dL_law__1172 ?_
  refine J_iload_4 X dL_law__1173 ?_
  refine J_iconst (v := 1) X dL_law__1175 rfl ?_
  refine J_iadd X dL_law__1176 ?_
  refine J_sld X S1 S2 S3 (lin (j := 1) S5 S4 (by decide)) e1 dL_law__1177 ?_
  refine J_aload_0 X dL_law__1178 ?_
  refine J_iload_4 X dL_law__1179 ?_
  refine J_iconst (v := 2) X dL_law__1181 rfl ?_
  refine J_iadd X dL_law__1182 ?_
  refine J_sld X S1 S2 S3 (lin (j := 2) S5 S4 (by decide)) e2 dL_law__1183 ?_
  refine J_aload_0 X dL_law__1184 ?_
  refine J_iload_4 X dL_law__1185 ?_
  refine J_iconst (v := 3) X dL_law__1187 rfl ?_
  refine J_iadd X dL_law__1188 ?_
  refine J_sld X S1 S2 S3 (lin (j := 3) S5 S4 (by decide)) e3 dL_law__1189 ?_
  refine J_callV X (fr_m (c_M_meter hRM hI.1 a1 a2 a3) ap1 ap2 h3) (And.intro gw_5_231 cw_X11_meter) (un_mid_l ap1 hRM.1) rfl rfl (hroom2 (show cells + 7 ≤ 601024 by omega) (show slots + 132 ≤ 7293034 by omega)) (Nat.le_of_ble_eq_true rfl) dL_law__1190 rfl (fun v h' e => ?_) (fun E h' e => e.elim)
  obtain ⟨hm2, ⟨e0, hRM2⟩, b1, b2, e⟩ := e
  subst e0
  subst e
  show J K _ [some (.ref b), some (.ref (ρ 0 0)), some (.ref m), some (.ref o), some (.int (nI i)), some (.int (lawK (X_meter_c σ a1 a2 a3) 1 2 3)), none, none] [.int (M_meter σ a1 a2 a3)] 1193 (cells + 7) (slots + 132)
  refine J_istore_6 X dL_law__1193 rfl (by decide) ?_
  refine J_aload_2 X dL_law__1195 ?_
  refine J_callV X (fr_m (c_M_thrown hRM2) b1 ap2 b2) (And.intro gw_5_137 cw_X11_thrown) (un_mid_l b1 hRM2.1) rfl rfl (hroom2 (show cells + 7 ≤ 601024 by omega) (show slots + 132 ≤ 7293034 by omega)) (Nat.le_of_ble_eq_true rfl) dL_law__1196 rfl (fun v h' e => ?_) (fun E h' e => e.elim)
  obtain ⟨hm3, ⟨e0, e4⟩, b3, b4, e⟩ := e
  subst e0
  subst e
  subst e4
  show J K _ [some (.ref b), some (.ref (ρ 0 0)), some (.ref m), some (.ref o), some (.int (nI i)), some (.int (lawK (X_meter_c σ a1 a2 a3) 1 2 3)), some (.int (M_meter σ a1 a2 a3)), none] [.int (M_thrown (M_meter_s σ a1 a2 a3))] 1199 (cells + 7) (slots + 132)
  have hcx : X_meter_c σ a1 a2 a3 = 0 ∨ X_meter_c σ a1 a2 a3 = 1 ∨ X_meter_c σ a1 a2 a3 = 2 ∨ X_meter_c σ a1 a2 a3 = 3 := by
    rcases C_meter (σ := σ) (p1 := a1) (p2 := a2) (p3 := a3) with z | z | z | z <;> rw [z] <;> decide
  have q := ((Q_meter hI hO a1 a2 a3).1).law hcx
  have F := fin3 hRA hRA hI hO (N_meter σ a1 a2 a3) q.2.2.1 q.2.2.2 (Q_meter hI hO a1 a2 a3).2.1 (Q_meter hI hO a1 a2 a3).2.2
  refine J_iload_5 X dL_law__1199 ?_
  refine J_icmp_eq (tgt := 1206) X dL_law__1201 (by decide) (fun _ => ?_) (fun z => absurd q.1 z)
  refine J_iload_5 X dL_law__1206 ?_
  have KE : J K (un h2x (un hm3 (one o (oc (kca K) (if X_meter_c σ a1 a2 a3 = 0 then vp_updL g 0 (X_meter σ a1 a2 a3).toInt64 else g))))) [some (.ref b), some (.ref (ρ 0 0)), some (.ref m), some (.ref o), some (.int (nI i)), some (.int (lawK (X_meter_c σ a1 a2 a3) 1 2 3)), some (.int (M_meter σ a1 a2 a3)), none] [] 1223 (cells + 7) (slots + 132) := by
    refine J_goto (tgt := 2310) X dL_law__1223 (by decide) ?_
    refine J.subL (lv' := [some (.ref b), some (.ref (ρ 0 0)), some (.ref m), some (.ref o), some (.int (nI i)), none, none, none]) ⟨rfl, rfl, rfl, rfl, rfl, trivial⟩ ?_
    exact J.widen (show cells + 7 ≤ cells + 8 by omega) (show slots + 132 ≤ slots + 148 by omega) (k _ _ _ _ ⟨F.1, ⟨ρm, hRM2⟩, F.2.1, F.2.2, b3, ap2, b4⟩)
  refine J_if_ne (tgt := 1223) X dL_law__1208 (by decide) (fun _ => KE) (fun z => ?_)
  have z0 : X_meter_c σ a1 a2 a3 = 0 := by
    rcases C_meter (σ := σ) (p1 := a1) (p2 := a2) (p3 := a3) with w | w | w | w
    · exact w
    · rw [w] at z; exact absurd z (by decide)
    · rw [w] at z; exact absurd z (by decide)
    · rw [w] at z; exact absurd z (by decide)
  refine J_aload_3 X dL_law__1211 ?_
  refine J_iconst (v := 0) X dL_law__1212 rfl ?_
  refine J_lald' X (N := 1) (v := (X_meter σ a1 a2 a3).toInt64) (un_out ap2 b4) vp01 (by rw [if_pos z0]; exact updL0 _ _) dL_law__1213 ?_
  refine J_iload_6 X dL_law__1214 ?_
  refine J_i2l X dL_law__1216 ?_
  refine J_lcmp X dL_law__1217 ?_
  exact J_if_eq (tgt := 1223) X dL_law__1218 (by decide) (fun _ => KE) (fun z => absurd (lg_eq (congrArg Int32.toInt64 (q.2.1 z0).symm)) z)
theorem LC_read {K : KT} {mn : String} {ret : Option FieldType} {tb : List ExceptionTableEntry} {w0 : Cond} {h0 : fH} {post : Option Value → fH → Prop} {px : String → fH → Prop} (X : JX K mn "NightValleyLaw" cL_law_ 8 ret tb w0 room_1 h0 post px) {b L i r m o : Nat} {xs : Nat → Int32} (S : LSc K b L i xs) : CASE K b r m o i 1226 := by
  intro hx hm g σ cells slots hLI hc hs k
  obtain ⟨⟨ρ, μ, cap, hR, hr, hcap⟩, ⟨ρm, hRM⟩, hI, hO, h1, h2, h3⟩ := hLI
  subst hr
  obtain ⟨S1, S2, S3, S4, S5⟩ := S
  generalize e1 : xs (nI i + 1).toNatClampNeg = a1
  refine J_aload_1 X dL_law__1226 ?_
  refine J_aload_0 X dL_law__1227 ?_
  refine J_iload_4 X dL_law__1228 ?_
  refine J_iconst (v := 1) X dL_law__1230 rfl ?_
  refine J_iadd X dL_law__1231 ?_
  refine J_sld X S1 S2 S3 (lin (j := 1) S5 S4 (by decide)) e1 dL_law__1232 ?_
  refine J_aload_3 X dL_law__1233 ?_
  refine J_callSW X (fr_x (c_L_read hR hI hcap a1 h2) h1 h3) (And.intro gw_3_190 cw_L_read) rfl (hroom2 (show cells + 3 ≤ 601024 by omega) (show slots + 108 ≤ 7293034 by omega)) (Nat.le_of_ble_eq_true rfl) dL_law__1234 rfl (fun v h' e => ?_) (fun E h' e => e.elim)
  obtain ⟨e0, h2x, hRA, ap1, ap2, e⟩ := e
  subst e0
  subst e
  show J K _ [some (.ref b), some (.ref (ρ 0 0)), some (.ref m), some (.ref o), some (.int (nI i)), none, none, none] [.int (lawK (X_read_c σ a1) 1 0 0)] 1237 (cells + 3) (slots + 108)
  refine J_istore_5 X dL_law__1237 rfl (by decide) ?_
  refine J_aload_2 X dL_law__1239 ?_
  refine J_aload_0 X dL_law__1240 ?_
  refine J_iload_4 X dL_law__1241 ?_
  refine J_iconst (v := 1) X dL_law__1243 rfl ?_
  refine J_iadd X dL_law__1244 ?_
  refine J_sld X S1 S2 S3 (lin (j := 1) S5 S4 (by decide)) e1 dL_law__1245 ?_
  refine J_callV X (fr_m (c_M_read hRM hI.1 a1) ap1 ap2 h3) (And.intro gw_5_235 cw_X11_read) (un_mid_l ap1 hRM.1) rfl rfl (hroom2 (show cells + 3 ≤ 601024 by omega) (show slots + 108 ≤ 7293034 by omega)) (Nat.le_of_ble_eq_true rfl) dL_law__1246 rfl (fun v h' e => ?_) (fun E h' e => e.elim)
  obtain ⟨hm2, ⟨e0, hRM2⟩, b1, b2, e⟩ := e
  subst e0
  subst e
  show J K _ [some (.ref b), some (.ref (ρ 0 0)), some (.ref m), some (.ref o), some (.int (nI i)), some (.int (lawK (X_read_c σ a1) 1 0 0)), none, none] [.int (M_read σ a1)] 1249 (cells + 3) (slots + 108)
  refine J_istore_6 X dL_law__1249 rfl (by decide) ?_
  refine J_aload_2 X dL_law__1251 ?_
  refine J_callV X (fr_m (c_M_thrown hRM2) b1 ap2 b2) (And.intro gw_5_137 cw_X11_thrown) (un_mid_l b1 hRM2.1) rfl rfl (hroom2 (show cells + 3 ≤ 601024 by omega) (show slots + 108 ≤ 7293034 by omega)) (Nat.le_of_ble_eq_true rfl) dL_law__1252 rfl (fun v h' e => ?_) (fun E h' e => e.elim)
  obtain ⟨hm3, ⟨e0, e4⟩, b3, b4, e⟩ := e
  subst e0
  subst e
  subst e4
  show J K _ [some (.ref b), some (.ref (ρ 0 0)), some (.ref m), some (.ref o), some (.int (nI i)), some (.int (lawK (X_read_c σ a1) 1 0 0)), some (.int (M_read σ a1)), none] [.int (M_thrown (M_read_s σ a1))] 1255 (cells + 3) (slots + 108)
  have hcx : X_read_c σ a1 = 0 ∨ X_read_c σ a1 = 1 ∨ X_read_c σ a1 = 2 ∨ X_read_c σ a1 = 3 := by
    rcases C_read (σ := σ) (p1 := a1) with z | z <;> rw [z] <;> decide
  have q := ((Q_read hI hO a1).1).law hcx
  have F := fin3 hRA hRA hI hO (N_read σ a1) q.2.2.1 q.2.2.2 (Q_read hI hO a1).2.1 (Q_read hI hO a1).2.2
  refine J_iload_5 X dL_law__1255 ?_
  refine J_icmp_eq (tgt := 1262) X dL_law__1257 (by decide) (fun _ => ?_) (fun z => absurd q.1 z)
  refine J_iload_5 X dL_law__1262 ?_
  have KE : J K (un h2x (un hm3 (one o (oc (kca K) (if X_read_c σ a1 = 0 then vp_updL g 0 (X_read σ a1).toInt64 else g))))) [some (.ref b), some (.ref (ρ 0 0)), some (.ref m), some (.ref o), some (.int (nI i)), some (.int (lawK (X_read_c σ a1) 1 0 0)), some (.int (M_read σ a1)), none] [] 1279 (cells + 3) (slots + 108) := by
    refine J_goto (tgt := 2310) X dL_law__1279 (by decide) ?_
    refine J.subL (lv' := [some (.ref b), some (.ref (ρ 0 0)), some (.ref m), some (.ref o), some (.int (nI i)), none, none, none]) ⟨rfl, rfl, rfl, rfl, rfl, trivial⟩ ?_
    exact J.widen (show cells + 3 ≤ cells + 8 by omega) (show slots + 108 ≤ slots + 148 by omega) (k _ _ _ _ ⟨F.1, ⟨ρm, hRM2⟩, F.2.1, F.2.2, b3, ap2, b4⟩)
  refine J_if_ne (tgt := 1279) X dL_law__1264 (by decide) (fun _ => KE) (fun z => ?_)
  have z0 : X_read_c σ a1 = 0 := by
    rcases C_read (σ := σ) (p1 := a1) with w | w
    · exact w
    · rw [w] at z; exact absurd z (by decide)
  refine J_aload_3 X dL_law__1267 ?_
  refine J_iconst (v := 0) X dL_law__1268 rfl ?_
  refine J_lald' X (N := 1) (v := (X_read σ a1).toInt64) (un_out ap2 b4) vp01 (by rw [if_pos z0]; exact updL0 _ _) dL_law__1269 ?_
  refine J_iload_6 X dL_law__1270 ?_
  refine J_i2l X dL_law__1272 ?_
  refine J_lcmp X dL_law__1273 ?_
  exact J_if_eq (tgt := 1279) X dL_law__1274 (by decide) (fun _ => KE) (fun z => absurd (lg_eq (congrArg Int32.toInt64 (q.2.1 z0).symm)) z)
theorem LC_tell {K : KT} {mn : String} {ret : Option FieldType} {tb : List ExceptionTableEntry} {w0 : Cond} {h0 : fH} {post : Option Value → fH → Prop} {px : String → fH → Prop} (X : JX K mn "NightValleyLaw" cL_law_ 8 ret tb w0 room_1 h0 post px) {b L i r m o : Nat} {xs : Nat → Int32} (S : LSc K b L i xs) : CASE K b r m o i 1282 := by
  intro hx hm g σ cells slots hLI hc hs k
  obtain ⟨⟨ρ, μ, cap, hR, hr, hcap⟩, ⟨ρm, hRM⟩, hI, hO, h1, h2, h3⟩ := hLI
  subst hr
  obtain ⟨S1, S2, S3, S4, S5⟩ := S
  generalize e1 : xs (nI i + 1).toNatClampNeg = a1
  generalize e2 : xs (nI i + 2).toNatClampNeg = a2
  refine J_aload_1 X dL_law__1282 ?_
  refine J_aload_0 X dL_law__1283 ?_
  refine J_iload_4 X dL_law__1284 ?_
  refine J_iconst (v := 1) X dL_law__1286 rfl ?_
  refine J_iadd X dL_law__1287 ?_
  refine J_sld X S1 S2 S3 (lin (j := 1) S5 S4 (by decide)) e1 dL_law__1288 ?_
  refine J_aload_0 X dL_law__1289 ?_
  refine J_iload_4 X dL_law__1290 ?_
  refine J_iconst (v := 2) X dL_law__1292 rfl ?_
  refine J_iadd X dL_law__1293 ?_
  refine J_sld X S1 S2 S3 (lin (j := 2) S5 S4 (by decide)) e2 dL_law__1294 ?_
  refine J_aload_3 X dL_law__1295 ?_
  refine J_callSW X (fr_x (c_L_tell hR hI hcap a1 a2 h2) h1 h3) (And.intro gw_4_41 cw_L_tell) rfl (hroom2 (show cells + 2 ≤ 601024 by omega) (show slots + 12 ≤ 7293034 by omega)) (Nat.le_of_ble_eq_true rfl) dL_law__1296 rfl (fun v h' e => ?_) (fun E h' e => e.elim)
  obtain ⟨e0, h2x, hRA, ap1, ap2, e⟩ := e
  subst e0
  subst e
  show J K _ [some (.ref b), some (.ref (ρ 0 0)), some (.ref m), some (.ref o), some (.int (nI i)), none, none, none] [.int (lawK (X_tell_c σ a1 a2) 1 2 0)] 1299 (cells + 2) (slots + 12)
  refine J_istore_5 X dL_law__1299 rfl (by decide) ?_
  refine J_aload_2 X dL_law__1301 ?_
  refine J_aload_0 X dL_law__1302 ?_
  refine J_iload_4 X dL_law__1303 ?_
  refine J_iconst (v := 1) X dL_law__1305 rfl ?_
  refine J_iadd X dL_law__1306 ?_
  refine J_sld X S1 S2 S3 (lin (j := 1) S5 S4 (by decide)) e1 dL_law__1307 ?_
  refine J_aload_0 X dL_law__1308 ?_
  refine J_iload_4 X dL_law__1309 ?_
  refine J_iconst (v := 2) X dL_law__1311 rfl ?_
  refine J_iadd X dL_law__1312 ?_
  refine J_sld X S1 S2 S3 (lin (j := 2) S5 S4 (by decide)) e2 dL_law__1313 ?_
  refine J_callV X (fr_m (c_M_tell hRM hI.1 a1 a2) ap1 ap2 h3) (And.intro gw_6_29 cw_X11_tell) (un_mid_l ap1 hRM.1) rfl rfl (hroom2 (show cells + 2 ≤ 601024 by omega) (show slots + 12 ≤ 7293034 by omega)) (Nat.le_of_ble_eq_true rfl) dL_law__1314 rfl (fun v h' e => ?_) (fun E h' e => e.elim)
  obtain ⟨hm2, ⟨e0, hRM2⟩, b1, b2, e⟩ := e
  subst e0
  subst e
  show J K _ [some (.ref b), some (.ref (ρ 0 0)), some (.ref m), some (.ref o), some (.int (nI i)), some (.int (lawK (X_tell_c σ a1 a2) 1 2 0)), none, none] [.int (M_tell σ a1 a2)] 1317 (cells + 2) (slots + 12)
  refine J_istore_6 X dL_law__1317 rfl (by decide) ?_
  refine J_aload_2 X dL_law__1319 ?_
  refine J_callV X (fr_m (c_M_thrown hRM2) b1 ap2 b2) (And.intro gw_5_137 cw_X11_thrown) (un_mid_l b1 hRM2.1) rfl rfl (hroom2 (show cells + 2 ≤ 601024 by omega) (show slots + 12 ≤ 7293034 by omega)) (Nat.le_of_ble_eq_true rfl) dL_law__1320 rfl (fun v h' e => ?_) (fun E h' e => e.elim)
  obtain ⟨hm3, ⟨e0, e4⟩, b3, b4, e⟩ := e
  subst e0
  subst e
  subst e4
  show J K _ [some (.ref b), some (.ref (ρ 0 0)), some (.ref m), some (.ref o), some (.int (nI i)), some (.int (lawK (X_tell_c σ a1 a2) 1 2 0)), some (.int (M_tell σ a1 a2)), none] [.int (M_thrown (M_tell_s σ a1 a2))] 1323 (cells + 2) (slots + 12)
  have hcx : X_tell_c σ a1 a2 = 0 ∨ X_tell_c σ a1 a2 = 1 ∨ X_tell_c σ a1 a2 = 2 ∨ X_tell_c σ a1 a2 = 3 := by
    rcases C_tell (σ := σ) (p1 := a1) (p2 := a2) with z | z | z <;> rw [z] <;> decide
  have q := (Q_tell hI a1 a2).law hcx
  have F := fin3 hRA hRA hI hO (N_tell σ a1 a2) q.2.2.1 q.2.2.2 (I_tell hI a1 a2) (O_tell hO a1 a2)
  refine J_iload_5 X dL_law__1323 ?_
  refine J_icmp_eq (tgt := 1330) X dL_law__1325 (by decide) (fun _ => ?_) (fun z => absurd q.1 z)
  refine J_iload_5 X dL_law__1330 ?_
  have KE : J K (un h2x (un hm3 (one o (oc (kca K) (if X_tell_c σ a1 a2 = 0 then vp_updL g 0 (X_tell σ a1 a2).toInt64 else g))))) [some (.ref b), some (.ref (ρ 0 0)), some (.ref m), some (.ref o), some (.int (nI i)), some (.int (lawK (X_tell_c σ a1 a2) 1 2 0)), some (.int (M_tell σ a1 a2)), none] [] 1347 (cells + 2) (slots + 12) := by
    refine J_goto (tgt := 2310) X dL_law__1347 (by decide) ?_
    refine J.subL (lv' := [some (.ref b), some (.ref (ρ 0 0)), some (.ref m), some (.ref o), some (.int (nI i)), none, none, none]) ⟨rfl, rfl, rfl, rfl, rfl, trivial⟩ ?_
    exact J.widen (show cells + 2 ≤ cells + 8 by omega) (show slots + 12 ≤ slots + 148 by omega) (k _ _ _ _ ⟨F.1, ⟨ρm, hRM2⟩, F.2.1, F.2.2, b3, ap2, b4⟩)
  refine J_if_ne (tgt := 1347) X dL_law__1332 (by decide) (fun _ => KE) (fun z => ?_)
  have z0 : X_tell_c σ a1 a2 = 0 := by
    rcases C_tell (σ := σ) (p1 := a1) (p2 := a2) with w | w | w
    · exact w
    · rw [w] at z; exact absurd z (by decide)
    · rw [w] at z; exact absurd z (by decide)
  refine J_aload_3 X dL_law__1335 ?_
  refine J_iconst (v := 0) X dL_law__1336 rfl ?_
  refine J_lald' X (N := 1) (v := (X_tell σ a1 a2).toInt64) (un_out ap2 b4) vp01 (by rw [if_pos z0]; exact updL0 _ _) dL_law__1337 ?_
  refine J_iload_6 X dL_law__1338 ?_
  refine J_i2l X dL_law__1340 ?_
  refine J_lcmp X dL_law__1341 ?_
  exact J_if_eq (tgt := 1347) X dL_law__1342 (by decide) (fun _ => KE) (fun z => absurd (lg_eq (congrArg Int32.toInt64 (q.2.1 z0).symm)) z)
end
