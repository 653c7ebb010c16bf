noncomputable section
theorem LC_ground {K : KT} {mn : String} {ret : Option FieldType} {tb : List ExceptionTableEntry} {w0 : Cond} {h0 : fH} {post : Option Value → fH → Prop} {px : String → fH → Prop} (X : JX K mn "NightValleyLaw" cL_law_ 8 ret tb w0 room_1 h0 post px) {b L i r m o : Nat} {xs : Nat → Int32} (S : LSc K b L i xs) : CASE K b r m o i 1822 := by
  intro hx hm g σ cells slots hLI hc hs k
  obtain ⟨⟨ρ, μ, cap, hR, hr, hcap⟩, ⟨ρm, hRM⟩, hI, hO, h1, h2, h3⟩ := hLI
  subst hr
  obtain ⟨S1, S2, S3, S4, S5⟩ := S
  generalize e1 : xs (nI i + 1).toNatClampNeg = a1
  refine J_aload_1 X dL_law__1822 ?_
  refine J_aload_0 X dL_law__1823 ?_
  refine J_iload_4 X dL_law__1824 ?_
  refine J_iconst (v := 1) X dL_law__1826 rfl ?_
  refine J_iadd X dL_law__1827 ?_
  refine J_sld X S1 S2 S3 (lin (j := 1) S5 S4 (by decide)) e1 dL_law__1828 ?_
  refine J_aload_3 X dL_law__1829 ?_
  refine J_callSW X (fr_x (c_L_ground hR hI hcap a1 h2) h1 h3) (And.intro gw_4_135 cw_L_ground) rfl (hroom2 (show cells + 1 ≤ 601024 by omega) (show slots + 6 ≤ 7293034 by omega)) (Nat.le_of_ble_eq_true rfl) dL_law__1830 rfl (fun v h' e => ?_) (fun E h' e => e.elim)
  obtain ⟨e0, h2x, hRA, ap1, ap2, e⟩ := e
  subst e0
  subst e
  show J K _ [some (.ref b), some (.ref (ρ 0 0)), some (.ref m), some (.ref o), some (.int (nI i)), none, none, none] [.int (lawK (X_ground_c σ a1) 1 0 0)] 1833 (cells + 1) (slots + 6)
  refine J_istore_5 X dL_law__1833 rfl (by decide) ?_
  refine J_aload_2 X dL_law__1835 ?_
  refine J_aload_0 X dL_law__1836 ?_
  refine J_iload_4 X dL_law__1837 ?_
  refine J_iconst (v := 1) X dL_law__1839 rfl ?_
  refine J_iadd X dL_law__1840 ?_
  refine J_sld X S1 S2 S3 (lin (j := 1) S5 S4 (by decide)) e1 dL_law__1841 ?_
  refine J_callV X (fr_m (c_M_ground hRM hI.1 a1) ap1 ap2 h3) (And.intro gw_6_74 cw_X11_ground) (un_mid_l ap1 hRM.1) rfl rfl (hroom2 (show cells + 1 ≤ 601024 by omega) (show slots + 6 ≤ 7293034 by omega)) (Nat.le_of_ble_eq_true rfl) dL_law__1842 rfl (fun v h' e => ?_) (fun E h' e => e.elim)
  obtain ⟨hm2, ⟨e0, hRM2⟩, b1, b2, e⟩ := e
  subst e0
  subst e
  show J K _ [some (.ref b), some (.ref (ρ 0 0)), some (.ref m), some (.ref o), some (.int (nI i)), some (.int (lawK (X_ground_c σ a1) 1 0 0)), none, none] [.int (M_ground σ a1)] 1845 (cells + 1) (slots + 6)
  refine J_istore_6 X dL_law__1845 rfl (by decide) ?_
  refine J_aload_2 X dL_law__1847 ?_
  refine J_callV X (fr_m (c_M_thrown hRM2) b1 ap2 b2) (And.intro gw_5_137 cw_X11_thrown) (un_mid_l b1 hRM2.1) rfl rfl (hroom2 (show cells + 1 ≤ 601024 by omega) (show slots + 6 ≤ 7293034 by omega)) (Nat.le_of_ble_eq_true rfl) dL_law__1848 rfl (fun v h' e => ?_) (fun E h' e => e.elim)
  obtain ⟨hm3, ⟨e0, e4⟩, b3, b4, e⟩ := e
  subst e0
  subst e
  subst e4
  show J K _ [some (.ref b), some (.ref (ρ 0 0)), some (.ref m), some (.ref o), some (.int (nI i)), some (.int (lawK (X_ground_c σ a1) 1 0 0)), some (.int (M_ground σ a1)), none] [.int (M_thrown (M_ground_s σ a1))] 1851 (cells + 1) (slots + 6)
  have hcx : X_ground_c σ a1 = 0 ∨ X_ground_c σ a1 = 1 ∨ X_ground_c σ a1 = 2 ∨ X_ground_c σ a1 = 3 := by
    rcases C_ground (σ := σ) (p1 := a1) with z | z <;> rw [z] <;> decide
  have q := (Q_ground hI a1).law hcx
  have F := fin3 hRA hRA hI hO (Or.inr (R_ground σ a1)) q.2.2.1 q.2.2.2 (by rw [R_ground]; exact hI) (by rw [R_ground]; exact hO)
  refine J_iload_5 X dL_law__1851 ?_
  refine J_icmp_eq (tgt := 1858) X dL_law__1853 (by decide) (fun _ => ?_) (fun z => absurd q.1 z)
  refine J_iload_5 X dL_law__1858 ?_
  have KE : J K (un h2x (un hm3 (one o (oc (kca K) (if X_ground_c σ a1 = 0 then vp_updL g 0 (X_ground σ a1).toInt64 else g))))) [some (.ref b), some (.ref (ρ 0 0)), some (.ref m), some (.ref o), some (.int (nI i)), some (.int (lawK (X_ground_c σ a1) 1 0 0)), some (.int (M_ground σ a1)), none] [] 1875 (cells + 1) (slots + 6) := by
    refine J_goto (tgt := 2310) X dL_law__1875 (by decide) ?_
    refine J.subL (lv' := [some (.ref b), some (.ref (ρ 0 0)), some (.ref m), some (.ref o), some (.int (nI i)), none, none, none]) ⟨rfl, rfl, rfl, rfl, rfl, trivial⟩ ?_
    exact J.widen (show cells + 1 ≤ cells + 8 by omega) (show slots + 6 ≤ slots + 148 by omega) (k _ _ _ _ ⟨F.1, ⟨ρm, hRM2⟩, F.2.1, F.2.2, b3, ap2, b4⟩)
  refine J_if_ne (tgt := 1875) X dL_law__1860 (by decide) (fun _ => KE) (fun z => ?_)
  have z0 : X_ground_c σ a1 = 0 := by
    rcases C_ground (σ := σ) (p1 := a1) with w | w
    · exact w
    · rw [w] at z; exact absurd z (by decide)
  refine J_aload_3 X dL_law__1863 ?_
  refine J_iconst (v := 0) X dL_law__1864 rfl ?_
  refine J_lald' X (N := 1) (v := (X_ground σ a1).toInt64) (un_out ap2 b4) vp01 (by rw [if_pos z0]; exact updL0 _ _) dL_law__1865 ?_
  refine J_iload_6 X dL_law__1866 ?_
  refine J_i2l X dL_law__1868 ?_
  refine J_lcmp X dL_law__1869 ?_
  exact J_if_eq (tgt := 1875) X dL_law__1870 (by decide) (fun _ => KE) (fun z => absurd (lg_eq (congrArg Int32.toInt64 (q.2.1 z0).symm)) z)
theorem LC_way {K : KT} {mn : String} {ret : Option FieldType} {tb : List ExceptionTableEntry} {w0 : Cond} {h0 : fH} {post : Option Value → fH → Prop} {px : String → fH → Prop} (X : JX K mn "NightValleyLaw" cL_law_ 8 ret tb w0 room_1 h0 post px) {b L i r m o : Nat} {xs : Nat → Int32} (S : LSc K b L i xs) : CASE K b r m o i 1878 := by
  intro hx hm g σ cells slots hLI hc hs k
  obtain ⟨⟨ρ, μ, cap, hR, hr, hcap⟩, ⟨ρm, hRM⟩, hI, hO, h1, h2, h3⟩ := hLI
  subst hr
  obtain ⟨S1, S2, S3, S4, S5⟩ := S
  generalize e1 : xs (nI i + 1).toNatClampNeg = a1
  generalize e2 : xs (nI i + 2).toNatClampNeg = a2
  generalize e3 : xs (nI i + 3).toNatClampNeg = a3
  refine J_aload_1 X dL_law__1878 ?_
  refine J_aload_0 X dL_law__1879 ?_
  refine J_iload_4 X dL_law__1880 ?_
  refine J_iconst (v := 1) X dL_law__1882 rfl ?_
  refine J_iadd X dL_law__1883 ?_
  refine J_sld X S1 S2 S3 (lin (j := 1) S5 S4 (by decide)) e1 dL_law__1884 ?_
  refine J_aload_0 X dL_law__1885 ?_
  refine J_iload_4 X dL_law__1886 ?_
  refine J_iconst (v := 2) X dL_law__1888 rfl ?_
  refine J_iadd X dL_law__1889 ?_
  refine J_sld X S1 S2 S3 (lin (j := 2) S5 S4 (by decide)) e2 dL_law__1890 ?_
  refine J_aload_0 X dL_law__1891 ?_
  refine J_iload_4 X dL_law__1892 ?_
  refine J_iconst (v := 3) X dL_law__1894 rfl ?_
  refine J_iadd X dL_law__1895 ?_
  refine J_sld X S1 S2 S3 (lin (j := 3) S5 S4 (by decide)) e3 dL_law__1896 ?_
  refine J_aload_3 X dL_law__1897 ?_
  refine J_callSW X (fr_x (c_L_way hR hI hcap a1 a2 a3 h2) h1 h3) (And.intro gw_4_142 cw_L_way) rfl (hroom2 (show cells + 3 ≤ 601024 by omega) (show slots + 18 ≤ 7293034 by omega)) (Nat.le_of_ble_eq_true rfl) dL_law__1898 rfl (fun v h' e => ?_) (fun E h' e => e.elim)
  obtain ⟨e0, h2x, hRA, ap1, ap2, e⟩ := e
  subst e0
  subst e
  show J K _ [some (.ref b), some (.ref (ρ 0 0)), some (.ref m), some (.ref o), some (.int (nI i)), none, none, none] [.int (lawK (X_way_c σ μ a1 a2 a3) 1 2 0)] 1901 (cells + 3) (slots + 18)
  refine J_istore_5 X dL_law__1901 rfl (by decide) ?_
  refine J_aload_2 X dL_law__1903 ?_
  refine J_aload_0 X dL_law__1904 ?_
  refine J_iload_4 X dL_law__1905 ?_
  refine J_iconst (v := 1) X dL_law__1907 rfl ?_
  refine J_iadd X dL_law__1908 ?_
  refine J_sld X S1 S2 S3 (lin (j := 1) S5 S4 (by decide)) e1 dL_law__1909 ?_
  refine J_aload_0 X dL_law__1910 ?_
  refine J_iload_4 X dL_law__1911 ?_
  refine J_iconst (v := 2) X dL_law__1913 rfl ?_
  refine J_iadd X dL_law__1914 ?_
  refine J_sld X S1 S2 S3 (lin (j := 2) S5 S4 (by decide)) e2 dL_law__1915 ?_
  refine J_aload_0 X dL_law__1916 ?_
  refine J_iload_4 X dL_law__1917 ?_
  refine J_iconst (v := 3) X dL_law__1919 rfl ?_
  refine J_iadd X dL_law__1920 ?_
  refine J_sld X S1 S2 S3 (lin (j := 3) S5 S4 (by decide)) e3 dL_law__1921 ?_
  refine J_callV X (fr_m (c_M_way hRM hI.1 a1 a2 a3) ap1 ap2 h3) (And.intro gw_6_82 cw_X11_way) (un_mid_l ap1 hRM.1) rfl rfl (hroom2 (show cells + 3 ≤ 601024 by omega) (show slots + 18 ≤ 7293034 by omega)) (Nat.le_of_ble_eq_true rfl) dL_law__1922 rfl (fun v h' e => ?_) (fun E h' e => e.elim)
  obtain ⟨hm2, ⟨e0, hRM2⟩, b1, b2, e⟩ := e
  subst e0
  subst e
  show J K _ [some (.ref b), some (.ref (ρ 0 0)), some (.ref m), some (.ref o), some (.int (nI i)), some (.int (lawK (X_way_c σ μ a1 a2 a3) 1 2 0)), none, none] [.int (M_way σ a1 a2 a3)] 1925 (cells + 3) (slots + 18)
  refine J_istore_6 X dL_law__1925 rfl (by decide) ?_
  refine J_aload_2 X dL_law__1927 ?_
  refine J_callV X (fr_m (c_M_thrown hRM2) b1 ap2 b2) (And.intro gw_5_137 cw_X11_thrown) (un_mid_l b1 hRM2.1) rfl rfl (hroom2 (show cells + 3 ≤ 601024 by omega) (show slots + 18 ≤ 7293034 by omega)) (Nat.le_of_ble_eq_true rfl) dL_law__1928 rfl (fun v h' e => ?_) (fun E h' e => e.elim)
  obtain ⟨hm3, ⟨e0, e4⟩, b3, b4, e⟩ := e
  subst e0
  subst e
  subst e4
  show J K _ [some (.ref b), some (.ref (ρ 0 0)), some (.ref m), some (.ref o), some (.int (nI i)), some (.int (lawK (X_way_c σ μ a1 a2 a3) 1 2 0)), some (.int (M_way σ a1 a2 a3)), none] [.int (M_thrown (M_way_s σ a1 a2 a3))] 1931 (cells + 3) (slots + 18)
  have hcx : X_way_c σ μ a1 a2 a3 = 0 ∨ X_way_c σ μ a1 a2 a3 = 1 ∨ X_way_c σ μ a1 a2 a3 = 2 ∨ X_way_c σ μ a1 a2 a3 = 3 := by
    rcases C_way (σ := σ) (μ := μ) (p1 := a1) (p2 := a2) (p3 := a3) with z | z | z <;> rw [z] <;> decide
  have q := (Q_way hI μ a1 a2 a3).law hcx
  have F := fin3 hRA hRA hI hO (Or.inr rfl) q.2.2.1 q.2.2.2 hI hO
  refine J_iload_5 X dL_law__1931 ?_
  refine J_icmp_eq (tgt := 1938) X dL_law__1933 (by decide) (fun _ => ?_) (fun z => absurd q.1 z)
  refine J_iload_5 X dL_law__1938 ?_
  have KE : J K (un h2x (un hm3 (one o (oc (kca K) (if X_way_c σ μ a1 a2 a3 = 0 then vp_updL g 0 (X_way σ μ a1 a2 a3).toInt64 else g))))) [some (.ref b), some (.ref (ρ 0 0)), some (.ref m), some (.ref o), some (.int (nI i)), some (.int (lawK (X_way_c σ μ a1 a2 a3) 1 2 0)), some (.int (M_way σ a1 a2 a3)), none] [] 1955 (cells + 3) (slots + 18) := by
    refine J_goto (tgt := 2310) X dL_law__1955 (by decide) ?_
    refine J.subL (lv' := [some (.ref b), some (.ref (ρ 0 0)), some (.ref m), some (.ref o), some (.int (nI i)), none, none, none]) ⟨rfl, rfl, rfl, rfl, rfl, trivial⟩ ?_
    exact J.widen (show cells + 3 ≤ cells + 8 by omega) (show slots + 18 ≤ slots + 148 by omega) (k _ _ _ _ ⟨F.1, ⟨ρm, hRM2⟩, F.2.1, F.2.2, b3, ap2, b4⟩)
  refine J_if_ne (tgt := 1955) X dL_law__1940 (by decide) (fun _ => KE) (fun z => ?_)
  have z0 : X_way_c σ μ a1 a2 a3 = 0 := by
    rcases C_way (σ := σ) (μ := μ) (p1 := a1) (p2 := a2) (p3 := a3) with w | w | w
    · exact w
    · rw [w] at z; exact absurd z (by decide)
    · rw [w] at z; exact absurd z (by decide)
  refine J_aload_3 X dL_law__1943 ?_
  refine J_iconst (v := 0) X dL_law__1944 rfl ?_
  refine J_lald' X (N := 1) (v := (X_way σ μ a1 a2 a3).toInt64) (un_out ap2 b4) vp01 (by rw [if_pos z0]; exact updL0 _ _) dL_law__1945 ?_
  refine J_iload_6 X dL_law__1946 ?_
  refine J_i2l X dL_law__1948 ?_
  refine J_lcmp X dL_law__1949 ?_
  exact J_if_eq (tgt := 1955) X dL_law__1950 (by decide) (fun _ => KE) (fun z => absurd (lg_eq (congrArg Int32.toInt64 (q.2.1 z0).symm)) z)
theorem LC_ofReading {K : KT} {mn : String} {ret : Option FieldType} {tb : List ExceptionTableEntry} {w0 : Cond} {h0 : fH} {post : Option Value → fH → Prop} {px : String → fH → Prop} (X : JX K mn "NightValleyLaw" cL_law_ 8 ret tb w0 room_1 h0 post px) {b L i r m o : Nat} {xs : Nat → Int32} (S : LSc K b L i xs) : CASE K b r m o i 1958 := by
  intro hx hm g σ cells slots hLI hc hs k
  obtain ⟨⟨ρ, μ, cap, hR, hr, hcap⟩, ⟨ρm, hRM⟩, hI, hO, h1, h2, h3⟩ := hLI
  subst hr
  obtain ⟨S1, S2, S3, S4, S5⟩ := S
  generalize e1 : xs (nI i + 1).toNatClampNeg = a1
  generalize e2 : xs (nI i + 2).toNatClampNeg = a2
  generalize e3 : xs (nI i + 3).toNatClampNeg = a3
  refine J_aload_1 X dL_law__1958 ?_
  refine J_aload_0 X dL_law__1959 ?_
  refine J_iload_4 X dL_law__1960 ?_
  refine J_iconst (v := 1) X dL_law__1962 rfl ?_
  refine J_iadd X dL_law__1963 ?_
  refine J_sld X S1 S2 S3 (lin (j := 1) S5 S4 (by decide)) e1 dL_law__1964 ?_
  refine J_aload_0 X dL_law__1965 ?_
  refine J_iload_4 X dL_law__1966 ?_
  refine J_iconst (v := 2) X dL_law__1968 rfl ?_
  refine J_iadd X dL_law__1969 ?_
  refine J_sld X S1 S2 S3 (lin (j := 2) S5 S4 (by decide)) e2 dL_law__1970 ?_
  refine J_aload_0 X dL_law__1971 ?_
  refine J_iload_4 X dL_law__1972 ?_
  refine J_iconst (v := 3) X dL_law__1974 rfl ?_
  refine J_iadd X dL_law__1975 ?_
  refine J_sld X S1 S2 S3 (lin (j := 3) S5 S4 (by decide)) e3 dL_law__1976 ?_
  refine J_aload_3 X dL_law__1977 ?_
  refine J_callSW X (fr_x (c_L_ofReading hR hI hcap a1 a2 a3 h2) h1 h3) (And.intro gw_4_173 cw_L_ofReading) rfl (hroom2 (show cells + 3 ≤ 601024 by omega) (show slots + 18 ≤ 7293034 by omega)) (Nat.le_of_ble_eq_true rfl) dL_law__1978 rfl (fun v h' e => ?_) (fun E h' e => e.elim)
  obtain ⟨e0, h2x, hRA, ap1, ap2, e⟩ := e
  subst e0
  subst e
  show J K _ [some (.ref b), some (.ref (ρ 0 0)), some (.ref m), some (.ref o), some (.int (nI i)), none, none, none] [.int (lawK (X_ofReading_c σ a1 a2 a3) 1 2 0)] 1981 (cells + 3) (slots + 18)
  refine J_istore_5 X dL_law__1981 rfl (by decide) ?_
  refine J_aload_2 X dL_law__1983 ?_
  refine J_aload_0 X dL_law__1984 ?_
  refine J_iload_4 X dL_law__1985 ?_
  refine J_iconst (v := 1) X dL_law__1987 rfl ?_
  refine J_iadd X dL_law__1988 ?_
  refine J_sld X S1 S2 S3 (lin (j := 1) S5 S4 (by decide)) e1 dL_law__1989 ?_
  refine J_aload_0 X dL_law__1990 ?_
  refine J_iload_4 X dL_law__1991 ?_
  refine J_iconst (v := 2) X dL_law__1993 rfl ?_
  refine J_iadd X dL_law__1994 ?_
  refine J_sld X S1 S2 S3 (lin (j := 2) S5 S4 (by decide)) e2 dL_law__1995 ?_
  refine J_aload_0 X dL_law__1996 ?_
  refine J_iload_4 X dL_law__1997 ?_
  refine J_iconst (v := 3) X dL_law__1999 rfl ?_
  refine J_iadd X dL_law__2000 ?_
  refine J_sld X S1 S2 S3 (lin (j := 3) S5 S4 (by decide)) e3 dL_law__2001 ?_
  refine J_callV X (fr_m (c_M_ofReading hRM hI.1 a1 a2 a3) ap1 ap2 h3) (And.intro gw_6_86 cw_X11_ofReading) (un_mid_l ap1 hRM.1) rfl rfl (hroom2 (show cells + 3 ≤ 601024 by omega) (show slots + 18 ≤ 7293034 by omega)) (Nat.le_of_ble_eq_true rfl) dL_law__2002 rfl (fun v h' e => ?_) (fun E h' e => e.elim)
  obtain ⟨hm2, ⟨e0, hRM2⟩, b1, b2, e⟩ := e
  subst e0
  subst e
  show J K _ [some (.ref b), some (.ref (ρ 0 0)), some (.ref m), some (.ref o), some (.int (nI i)), some (.int (lawK (X_ofReading_c σ a1 a2 a3) 1 2 0)), none, none] [.int (M_ofReading σ a1 a2 a3)] 2005 (cells + 3) (slots + 18)
  refine J_istore_6 X dL_law__2005 rfl (by decide) ?_
  refine J_aload_2 X dL_law__2007 ?_
  refine J_callV X (fr_m (c_M_thrown hRM2) b1 ap2 b2) (And.intro gw_5_137 cw_X11_thrown) (un_mid_l b1 hRM2.1) rfl rfl (hroom2 (show cells + 3 ≤ 601024 by omega) (show slots + 18 ≤ 7293034 by omega)) (Nat.le_of_ble_eq_true rfl) dL_law__2008 rfl (fun v h' e => ?_) (fun E h' e => e.elim)
  obtain ⟨hm3, ⟨e0, e4⟩, b3, b4, e⟩ := e
  subst e0
  subst e
  subst e4
  show J K _ [some (.ref b), some (.ref (ρ 0 0)), some (.ref m), some (.ref o), some (.int (nI i)), some (.int (lawK (X_ofReading_c σ a1 a2 a3) 1 2 0)), some (.int (M_ofReading σ a1 a2 a3)), none] [.int (M_thrown (M_ofReading_s σ a1 a2 a3))] 2011 (cells + 3) (slots + 18)
  have hcx : X_ofReading_c σ a1 a2 a3 = 0 ∨ X_ofReading_c σ a1 a2 a3 = 1 ∨ X_ofReading_c σ a1 a2 a3 = 2 ∨ X_ofReading_c σ a1 a2 a3 = 3 := by
    rcases C_ofReading (σ := σ) (p1 := a1) (p2 := a2) (p3 := a3) with z | z | z <;> rw [z] <;> decide
  have q := (Q_ofReading hI a1 a2 a3).law hcx
  have F := fin3 hRA hRA hI hO (Or.inr (R_ofReading σ a1 a2 a3)) q.2.2.1 q.2.2.2 (by rw [R_ofReading]; exact hI) (by rw [R_ofReading]; exact hO)
  refine J_iload_5 X dL_law__2011 ?_
  refine J_icmp_eq (tgt := 2018) X dL_law__2013 (by decide) (fun _ => ?_) (fun z => absurd q.1 z)
  refine J_iload_5 X dL_law__2018 ?_
  have KE : J K (un h2x (un hm3 (one o (oc (kca K) (if X_ofReading_c σ a1 a2 a3 = 0 then vp_updL g 0 (X_ofReading σ a1 a2 a3).toInt64 else g))))) [some (.ref b), some (.ref (ρ 0 0)), some (.ref m), some (.ref o), some (.int (nI i)), some (.int (lawK (X_ofReading_c σ a1 a2 a3) 1 2 0)), some (.int (M_ofReading σ a1 a2 a3)), none] [] 2035 (cells + 3) (slots + 18) := by
    refine J_goto (tgt := 2310) X dL_law__2035 (by decide) ?_
    refine J.subL (lv' := [some (.ref b), some (.ref (ρ 0 0)), some (.ref m), some (.ref o), some (.int (nI i)), none, none, none]) ⟨rfl, rfl, rfl, rfl, rfl, trivial⟩ ?_
    exact J.widen (show cells + 3 ≤ cells + 8 by omega) (show slots + 18 ≤ slots + 148 by omega) (k _ _ _ _ ⟨F.1, ⟨ρm, hRM2⟩, F.2.1, F.2.2, b3, ap2, b4⟩)
  refine J_if_ne (tgt := 2035) X dL_law__2020 (by decide) (fun _ => KE) (fun z => ?_)
  have z0 : X_ofReading_c σ a1 a2 a3 = 0 := by
    rcases C_ofReading (σ := σ) (p1 := a1) (p2 := a2) (p3 := a3) with w | w | w
    · exact w
    · rw [w] at z; exact absurd z (by decide)
    · rw [w] at z; exact absurd z (by decide)
  refine J_aload_3 X dL_law__2023 ?_
  refine J_iconst (v := 0) X dL_law__2024 rfl ?_
  refine J_lald' X (N := 1) (v := (X_ofReading σ a1 a2 a3).toInt64) (un_out ap2 b4) vp01 (by rw [if_pos z0]; exact updL0 _ _) dL_law__2025 ?_
  refine J_iload_6 X dL_law__2026 ?_
  refine J_i2l X dL_law__2028 ?_
  refine J_lcmp X dL_law__2029 ?_
  exact J_if_eq (tgt := 2035) X dL_law__2030 (by decide) (fun _ => KE) (fun z => absurd (lg_eq (congrArg Int32.toInt64 (q.2.1 z0).symm)) z)
theorem LC_trend {K : KT} {mn : String} {ret : Option FieldType} {tb : List ExceptionTableEntry} {w0 : Cond} {h0 : fH} {post : Option Value → fH → Prop} {px : String → fH → Prop} (X : JX K mn "NightValleyLaw" cL_law_ 8 ret tb w0 room_1 h0 post px) {b L i r m o : Nat} {xs : Nat → Int32} (S : LSc K b L i xs) : CASE K b r m o i 2038 := by
  intro hx hm g σ cells slots hLI hc hs k
  obtain ⟨⟨ρ, μ, cap, hR, hr, hcap⟩, ⟨ρm, hRM⟩, hI, hO, h1, h2, h3⟩ := hLI
  subst hr
  obtain ⟨S1, S2, S3, S4, S5⟩ := S
  generalize e1 : xs (nI i + 1).toNatClampNeg = a1
  refine J_aload_1 X dL_law__2038 ?_
  refine J_aload_0 X dL_law__2039 ?_
  refine J_iload_4 X dL_law__2040 ?_
  refine J_iconst (v := 1) X dL_law__2042 rfl ?_
  refine J_iadd X dL_law__2043 ?_
  refine J_sld X S1 S2 S3 (lin (j := 1) S5 S4 (by decide)) e1 dL_law__2044 ?_
  refine J_aload_3 X dL_law__2045 ?_
  refine J_callSW X (fr_x (c_L_trend hR hI hcap a1 h2) h1 h3) (And.intro gw_4_181 cw_L_trend) rfl (hroom2 (show cells + 2 ≤ 601024 by omega) (show slots + 12 ≤ 7293034 by omega)) (Nat.le_of_ble_eq_true rfl) dL_law__2046 rfl (fun v h' e => ?_) (fun E h' e => e.elim)
  obtain ⟨e0, h2x, hRA, ap1, ap2, e⟩ := e
  subst e0
  subst e
  show J K _ [some (.ref b), some (.ref (ρ 0 0)), some (.ref m), some (.ref o), some (.int (nI i)), none, none, none] [.int (lawK (X_trend_c σ a1) 1 0 2)] 2049 (cells + 2) (slots + 12)
  refine J_istore_5 X dL_law__2049 rfl (by decide) ?_
  refine J_aload_2 X dL_law__2051 ?_
  refine J_aload_0 X dL_law__2052 ?_
  refine J_iload_4 X dL_law__2053 ?_
  refine J_iconst (v := 1) X dL_law__2055 rfl ?_
  refine J_iadd X dL_law__2056 ?_
  refine J_sld X S1 S2 S3 (lin (j := 1) S5 S4 (by decide)) e1 dL_law__2057 ?_
  refine J_callV X (fr_m (c_M_trend hRM hI.1 a1) ap1 ap2 h3) (And.intro gw_6_90 cw_X11_trend) (un_mid_l ap1 hRM.1) rfl rfl (hroom2 (show cells + 2 ≤ 601024 by omega) (show slots + 12 ≤ 7293034 by omega)) (Nat.le_of_ble_eq_true rfl) dL_law__2058 rfl (fun v h' e => ?_) (fun E h' e => e.elim)
  obtain ⟨hm2, ⟨e0, hRM2⟩, b1, b2, e⟩ := e
  subst e0
  subst e
  show J K _ [some (.ref b), some (.ref (ρ 0 0)), some (.ref m), some (.ref o), some (.int (nI i)), some (.int (lawK (X_trend_c σ a1) 1 0 2)), none, none] [.long (M_trend σ a1)] 2061 (cells + 2) (slots + 12)
  refine J_lstore_6 X dL_law__2061 rfl (by decide) ?_
  refine J_aload_2 X dL_law__2063 ?_
  refine J_callV X (fr_m (c_M_thrown hRM2) b1 ap2 b2) (And.intro gw_5_137 cw_X11_thrown) (un_mid_l b1 hRM2.1) rfl rfl (hroom2 (show cells + 2 ≤ 601024 by omega) (show slots + 12 ≤ 7293034 by omega)) (Nat.le_of_ble_eq_true rfl) dL_law__2064 rfl (fun v h' e => ?_) (fun E h' e => e.elim)
  obtain ⟨hm3, ⟨e0, e4⟩, b3, b4, e⟩ := e
  subst e0
  subst e
  subst e4
  show J K _ [some (.ref b), some (.ref (ρ 0 0)), some (.ref m), some (.ref o), some (.int (nI i)), some (.int (lawK (X_trend_c σ a1) 1 0 2)), some (.long (M_trend σ a1)), none] [.int (M_thrown (M_trend_s σ a1))] 2067 (cells + 2) (slots + 12)
  have hcx : X_trend_c σ a1 = 0 ∨ X_trend_c σ a1 = 1 ∨ X_trend_c σ a1 = 2 ∨ X_trend_c σ a1 = 3 := by
    rcases C_trend (σ := σ) (p1 := a1) with z | z | z <;> rw [z] <;> decide
  have q := (Q_trend hI a1).law hcx
  have F := fin3 hRA hRA hI hO (Or.inr (R_trend σ a1)) q.2.2.1 q.2.2.2 (by rw [R_trend]; exact hI) (by rw [R_trend]; exact hO)
  refine J_iload_5 X dL_law__2067 ?_
  refine J_icmp_eq (tgt := 2074) X dL_law__2069 (by decide) (fun _ => ?_) (fun z => absurd q.1 z)
  refine J_iload_5 X dL_law__2074 ?_
  have KE : J K (un h2x (un hm3 (one o (oc (kca K) (if X_trend_c σ a1 = 0 then vp_updL g 0 (X_trend σ a1) else g))))) [some (.ref b), some (.ref (ρ 0 0)), some (.ref m), some (.ref o), some (.int (nI i)), some (.int (lawK (X_trend_c σ a1) 1 0 2)), some (.long (M_trend σ a1)), none] [] 2090 (cells + 2) (slots + 12) := by
    refine J_goto (tgt := 2310) X dL_law__2090 (by decide) ?_
    refine J.subL (lv' := [some (.ref b), some (.ref (ρ 0 0)), some (.ref m), some (.ref o), some (.int (nI i)), none, none, none]) ⟨rfl, rfl, rfl, rfl, rfl, trivial⟩ ?_
    exact J.widen (show cells + 2 ≤ cells + 8 by omega) (show slots + 12 ≤ slots + 148 by omega) (k _ _ _ _ ⟨F.1, ⟨ρm, hRM2⟩, F.2.1, F.2.2, b3, ap2, b4⟩)
  refine J_if_ne (tgt := 2090) X dL_law__2076 (by decide) (fun _ => KE) (fun z => ?_)
  have z0 : X_trend_c σ a1 = 0 := by
    rcases C_trend (σ := σ) (p1 := a1) with w | w | w
    · exact w
    · rw [w] at z; exact absurd z (by decide)
    · rw [w] at z; exact absurd z (by decide)
  refine J_aload_3 X dL_law__2079 ?_
  refine J_iconst (v := 0) X dL_law__2080 rfl ?_
  refine J_lald' X (N := 1) (v := (X_trend σ a1)) (un_out ap2 b4) vp01 (by rw [if_pos z0]; exact updL0 _ _) dL_law__2081 ?_
  refine J_lload_6 X dL_law__2082 ?_
  refine J_lcmp X dL_law__2084 ?_
  exact J_if_eq (tgt := 2090) X dL_law__2085 (by decide) (fun _ => KE) (fun z => absurd (lg_eq (q.2.1 z0).symm) z)
theorem LC_isHeld {K : KT} {mn : String} {ret : Option FieldType} {tb : List ExceptionTableEntry} {w0 : Cond} {h0 : fH} {post : Option Value → fH → Prop} {px : String → fH → Prop} (X : JX K mn "NightValleyLaw" cL_law_ 8 ret tb w0 room_1 h0 post px) {b L i r m o : Nat} {xs : Nat → Int32} (S : LSc K b L i xs) : CASE K b r m o i 2093 := by
  intro hx hm g σ cells slots hLI hc hs k
  obtain ⟨⟨ρ, μ, cap, hR, hr, hcap⟩, ⟨ρm, hRM⟩, hI, hO, h1, h2, h3⟩ := hLI
  subst hr
  obtain ⟨S1, S2, S3, S4, S5⟩ := S
  refine J_aload_1 X dL_law__2093 ?_
  refine J_callV X (fr_v ((c_X_isHeld hR hI).conseq (fun _ _ e => e) (fun _ _ e => e.2.1 rfl)) h1 h2 h3) (And.intro gw_2_34 cw_X10_isHeld) (un_l hR.root) rfl rfl (hroom2 (show cells + 0 ≤ 601024 by omega) (show slots + 0 ≤ 7293034 by omega)) (Nat.le_of_ble_eq_true rfl) dL_law__2094 rfl (fun v h' e => ?_) (fun E h' e => e.elim)
  obtain ⟨h2x, ⟨e0, ec, hRX⟩, a1, a2, e⟩ := e
  subst e0
  subst e
  show J K _ _ [.int (X_isHeld σ)] 2097 cells slots
  refine J_aload_2 X dL_law__2097 ?_
  refine J_callV X (fr_m (c_M_isHeld hRM) a1 a2 h3) (And.intro gw_6_95 cw_X11_isHeld) (un_mid_l a1 hRM.1) rfl rfl (hroom2 (show cells + 0 ≤ 601024 by omega) (show slots + 0 ≤ 7293034 by omega)) (Nat.le_of_ble_eq_true rfl) dL_law__2098 rfl (fun v h' e => ?_) (fun E h' e => e.elim)
  obtain ⟨hm2, ⟨e0, hRM2⟩, b1, b2, e⟩ := e
  subst e0
  subst e
  show J K _ _ [.int (M_isHeld σ), .int (X_isHeld σ)] 2101 cells slots
  have q := (Q_isHeld σ).law (Or.inl rfl)
  have F := fin3 (cx := 0) (sm := M_isHeld_s σ) ⟨ρ, μ, cap, hRX, rfl, hcap⟩ ⟨ρ, μ, cap, hRX, rfl, hcap⟩ hI hO (Or.inl rfl) q.2.2.1 q.2.2.2 hI hO
  refine J_icmp_eq (tgt := 2310) X dL_law__2101 (by decide) (fun _ => ?_) (fun z => absurd (q.2.1 rfl).symm z)
  exact J.widen (show cells ≤ cells + 8 by omega) (show slots ≤ slots + 148 by omega) (k _ _ _ _ ⟨F.1, ⟨ρm, hRM2⟩, F.2.1, F.2.2, b1, a2, b2⟩)
theorem LC_trails {K : KT} {mn : String} {ret : Option FieldType} {tb : List ExceptionTableEntry} {w0 : Cond} {h0 : fH} {post : Option Value → fH → Prop} {px : String → fH → Prop} (X : JX K mn "NightValleyLaw" cL_law_ 8 ret tb w0 room_1 h0 post px) {b L i r m o : Nat} {xs : Nat → Int32} (S : LSc K b L i xs) : CASE K b r m o i 2106 := by
  intro hx hm g σ cells slots hLI hc hs k
  obtain ⟨⟨ρ, μ, cap, hR, hr, hcap⟩, ⟨ρm, hRM⟩, hI, hO, h1, h2, h3⟩ := hLI
  subst hr
  obtain ⟨S1, S2, S3, S4, S5⟩ := S
  generalize e1 : xs (nI i + 1).toNatClampNeg = a1
  generalize e2 : xs (nI i + 2).toNatClampNeg = a2
  refine J_aload_1 X dL_law__2106 ?_
  refine J_aload_0 X dL_law__2107 ?_
  refine J_iload_4 X dL_law__2108 ?_
  refine J_iconst (v := 1) X dL_law__2110 rfl ?_
  refine J_iadd X dL_law__2111 ?_
  refine J_sld X S1 S2 S3 (lin (j := 1) S5 S4 (by decide)) e1 dL_law__2112 ?_
  refine J_aload_0 X dL_law__2113 ?_
  refine J_iload_4 X dL_law__2114 ?_
  refine J_iconst (v := 2) X dL_law__2116 rfl ?_
  refine J_iadd X dL_law__2117 ?_
  refine J_sld X S1 S2 S3 (lin (j := 2) S5 S4 (by decide)) e2 dL_law__2118 ?_
  refine J_aload_3 X dL_law__2119 ?_
  refine J_callSW X (fr_x (c_L_trails hR hI hcap a1 a2 h2) h1 h3) (And.intro gw_4_195 cw_L_trails) rfl (hroom2 (show cells + 2 ≤ 601024 by omega) (show slots + 12 ≤ 7293034 by omega)) (Nat.le_of_ble_eq_true rfl) dL_law__2120 rfl (fun v h' e => ?_) (fun E h' e => e.elim)
  obtain ⟨e0, h2x, hRA, ap1, ap2, e⟩ := e
  subst e0
  subst e
  show J K _ [some (.ref b), some (.ref (ρ 0 0)), some (.ref m), some (.ref o), some (.int (nI i)), none, none, none] [.int (lawK (X_trails_c σ a1 a2) 0 1 0)] 2123 (cells + 2) (slots + 12)
  refine J_istore_5 X dL_law__2123 rfl (by decide) ?_
  refine J_aload_2 X dL_law__2125 ?_
  refine J_aload_0 X dL_law__2126 ?_
  refine J_iload_4 X dL_law__2127 ?_
  refine J_iconst (v := 1) X dL_law__2129 rfl ?_
  refine J_iadd X dL_law__2130 ?_
  refine J_sld X S1 S2 S3 (lin (j := 1) S5 S4 (by decide)) e1 dL_law__2131 ?_
  refine J_aload_0 X dL_law__2132 ?_
  refine J_iload_4 X dL_law__2133 ?_
  refine J_iconst (v := 2) X dL_law__2135 rfl ?_
  refine J_iadd X dL_law__2136 ?_
  refine J_sld X S1 S2 S3 (lin (j := 2) S5 S4 (by decide)) e2 dL_law__2137 ?_
  refine J_callV X (fr_m (c_M_trails hRM hI.1 a1 a2 (fun j hj z => by have := hI.2.2.1 j hj; rw [z] at this; exact absurd this (by decide))) ap1 ap2 h3) (And.intro gw_6_99 cw_X11_trails) (un_mid_l ap1 hRM.1) rfl rfl (hroom2 (show cells + 2 ≤ 601024 by omega) (show slots + 12 ≤ 7293034 by omega)) (Nat.le_of_ble_eq_true rfl) dL_law__2138 rfl (fun v h' e => ?_) (fun E h' e => e.elim)
  obtain ⟨hm2, ⟨e0, hRM2⟩, b1, b2, e⟩ := e
  subst e0
  subst e
  show J K _ [some (.ref b), some (.ref (ρ 0 0)), some (.ref m), some (.ref o), some (.int (nI i)), some (.int (lawK (X_trails_c σ a1 a2) 0 1 0)), none, none] [.int (M_trails σ a1 a2)] 2141 (cells + 2) (slots + 12)
  refine J_istore_6 X dL_law__2141 rfl (by decide) ?_
  refine J_aload_2 X dL_law__2143 ?_
  refine J_callV X (fr_m (c_M_thrown hRM2) b1 ap2 b2) (And.intro gw_5_137 cw_X11_thrown) (un_mid_l b1 hRM2.1) rfl rfl (hroom2 (show cells + 2 ≤ 601024 by omega) (show slots + 12 ≤ 7293034 by omega)) (Nat.le_of_ble_eq_true rfl) dL_law__2144 rfl (fun v h' e => ?_) (fun E h' e => e.elim)
  obtain ⟨hm3, ⟨e0, e4⟩, b3, b4, e⟩ := e
  subst e0
  subst e
  subst e4
  show J K _ [some (.ref b), some (.ref (ρ 0 0)), some (.ref m), some (.ref o), some (.int (nI i)), some (.int (lawK (X_trails_c σ a1 a2) 0 1 0)), some (.int (M_trails σ a1 a2)), none] [.int (M_thrown (M_trails_s σ a1 a2))] 2147 (cells + 2) (slots + 12)
  have hcx : X_trails_c σ a1 a2 = 0 ∨ X_trails_c σ a1 a2 = 1 ∨ X_trails_c σ a1 a2 = 2 ∨ X_trails_c σ a1 a2 = 3 := by
    rcases C_trails (σ := σ) (p1 := a1) (p2 := a2) with z | z <;> rw [z] <;> decide
  have q := (Q_trails hI a1 a2).law hcx
  have F := fin3 hRA hRA hI hO (Or.inr (R_trails σ a1 a2)) q.2.2.1 q.2.2.2 (by rw [R_trails]; exact hI) (by rw [R_trails]; exact hO)
  refine J_iload_5 X dL_law__2147 ?_
  refine J_icmp_eq (tgt := 2154) X dL_law__2149 (by decide) (fun _ => ?_) (fun z => absurd q.1 z)
  refine J_iload_5 X dL_law__2154 ?_
  have KE : J K (un h2x (un hm3 (one o (oc (kca K) (if X_trails_c σ a1 a2 = 0 then vp_updL g 0 (X_trails σ a1 a2).toInt64 else g))))) [some (.ref b), some (.ref (ρ 0 0)), some (.ref m), some (.ref o), some (.int (nI i)), some (.int (lawK (X_trails_c σ a1 a2) 0 1 0)), some (.int (M_trails σ a1 a2)), none] [] 2171 (cells + 2) (slots + 12) := by
    refine J_goto (tgt := 2310) X dL_law__2171 (by decide) ?_
    refine J.subL (lv' := [some (.ref b), some (.ref (ρ 0 0)), some (.ref m), some (.ref o), some (.int (nI i)), none, none, none]) ⟨rfl, rfl, rfl, rfl, rfl, trivial⟩ ?_
    exact J.widen (show cells + 2 ≤ cells + 8 by omega) (show slots + 12 ≤ slots + 148 by omega) (k _ _ _ _ ⟨F.1, ⟨ρm, hRM2⟩, F.2.1, F.2.2, b3, ap2, b4⟩)
  refine J_if_ne (tgt := 2171) X dL_law__2156 (by decide) (fun _ => KE) (fun z => ?_)
  have z0 : X_trails_c σ a1 a2 = 0 := by
    rcases C_trails (σ := σ) (p1 := a1) (p2 := a2) with w | w
    · exact w
    · rw [w] at z; exact absurd z (by decide)
  refine J_aload_3 X dL_law__2159 ?_
  refine J_iconst (v := 0) X dL_law__2160 rfl ?_
  refine J_lald' X (N := 1) (v := (X_trails σ a1 a2).toInt64) (un_out ap2 b4) vp01 (by rw [if_pos z0]; exact updL0 _ _) dL_law__2161 ?_
  refine J_iload_6 X dL_law__2162 ?_
  refine J_i2l X dL_law__2164 ?_
  refine J_lcmp X dL_law__2165 ?_
  exact J_if_eq (tgt := 2171) X dL_law__2166 (by decide) (fun _ => KE) (fun z => absurd (lg_eq (congrArg Int32.toInt64 (q.2.1 z0).symm)) z)
theorem LC_culprit {K : KT} {mn : String} {ret : Option FieldType} {tb : List ExceptionTableEntry} {w0 : Cond} {h0 : fH} {post : Option Value → fH → Prop} {px : String → fH → Prop} (X : JX K mn "NightValleyLaw" cL_law_ 8 ret tb w0 room_1 h0 post px) {b L i r m o : Nat} {xs : Nat → Int32} (S : LSc K b L i xs) : CASE K b r m o i 2174 := by
  intro hx hm g σ cells slots hLI hc hs k
  obtain ⟨⟨ρ, μ, cap, hR, hr, hcap⟩, ⟨ρm, hRM⟩, hI, hO, h1, h2, h3⟩ := hLI
  subst hr
  obtain ⟨S1, S2, S3, S4, S5⟩ := S
  generalize e1 : xs (nI i + 1).toNatClampNeg = a1
  refine J_aload_1 X dL_law__2174 ?_
  refine J_aload_0 X dL_law__2175 ?_
  refine J_iload_4 X dL_law__2176 ?_
  refine J_iconst (v := 1) X dL_law__2178 rfl ?_
  refine J_iadd X dL_law__2179 ?_
  refine J_sld X S1 S2 S3 (lin (j := 1) S5 S4 (by decide)) e1 dL_law__2180 ?_
  refine J_aload_3 X dL_law__2181 ?_
  refine J_callSW X (fr_x (c_L_culprit hR hI hcap a1 h2) h1 h3) (And.intro gw_4_210 cw_L_culprit) rfl (hroom2 (show cells + 1 ≤ 601024 by omega) (show slots + 6 ≤ 7293034 by omega)) (Nat.le_of_ble_eq_true rfl) dL_law__2182 rfl (fun v h' e => ?_) (fun E h' e => e.elim)
  obtain ⟨e0, h2x, hRA, ap1, ap2, e⟩ := e
  subst e0
  subst e
  show J K _ [some (.ref b), some (.ref (ρ 0 0)), some (.ref m), some (.ref o), some (.int (nI i)), none, none, none] [.int (lawK (X_culprit_c σ a1) 1 0 0)] 2185 (cells + 1) (slots + 6)
  refine J_istore_5 X dL_law__2185 rfl (by decide) ?_
  refine J_aload_2 X dL_law__2187 ?_
  refine J_aload_0 X dL_law__2188 ?_
  refine J_iload_4 X dL_law__2189 ?_
  refine J_iconst (v := 1) X dL_law__2191 rfl ?_
  refine J_iadd X dL_law__2192 ?_
  refine J_sld X S1 S2 S3 (lin (j := 1) S5 S4 (by decide)) e1 dL_law__2193 ?_
  refine J_callV X (fr_m (c_M_culprit hRM hI.1 a1) ap1 ap2 h3) (And.intro gw_6_103 cw_X11_culprit) (un_mid_l ap1 hRM.1) rfl rfl (hroom2 (show cells + 1 ≤ 601024 by omega) (show slots + 6 ≤ 7293034 by omega)) (Nat.le_of_ble_eq_true rfl) dL_law__2194 rfl (fun v h' e => ?_) (fun E h' e => e.elim)
  obtain ⟨hm2, ⟨e0, hRM2⟩, b1, b2, e⟩ := e
  subst e0
  subst e
  show J K _ [some (.ref b), some (.ref (ρ 0 0)), some (.ref m), some (.ref o), some (.int (nI i)), some (.int (lawK (X_culprit_c σ a1) 1 0 0)), none, none] [.int (M_culprit σ a1)] 2197 (cells + 1) (slots + 6)
  refine J_istore_6 X dL_law__2197 rfl (by decide) ?_
  refine J_aload_2 X dL_law__2199 ?_
  refine J_callV X (fr_m (c_M_thrown hRM2) b1 ap2 b2) (And.intro gw_5_137 cw_X11_thrown) (un_mid_l b1 hRM2.1) rfl rfl (hroom2 (show cells + 1 ≤ 601024 by omega) (show slots + 6 ≤ 7293034 by omega)) (Nat.le_of_ble_eq_true rfl) dL_law__2200 rfl (fun v h' e => ?_) (fun E h' e => e.elim)
  obtain ⟨hm3, ⟨e0, e4⟩, b3, b4, e⟩ := e
  subst e0
  subst e
  subst e4
  show J K _ [some (.ref b), some (.ref (ρ 0 0)), some (.ref m), some (.ref o), some (.int (nI i)), some (.int (lawK (X_culprit_c σ a1) 1 0 0)), some (.int (M_culprit σ a1)), none] [.int (M_thrown (M_culprit_s σ a1))] 2203 (cells + 1) (slots + 6)
  have hcx : X_culprit_c σ a1 = 0 ∨ X_culprit_c σ a1 = 1 ∨ X_culprit_c σ a1 = 2 ∨ X_culprit_c σ a1 = 3 := by
    rcases C_culprit (σ := σ) (p1 := a1) with z | z <;> rw [z] <;> decide
  have q := (Q_culprit hI a1).law hcx
  have F := fin3 hRA hRA hI hO (Or.inr (R_culprit σ a1)) q.2.2.1 q.2.2.2 (by rw [R_culprit]; exact hI) (by rw [R_culprit]; exact hO)
  refine J_iload_5 X dL_law__2203 ?_
  refine J_icmp_eq (tgt := 2210) X dL_law__2205 (by decide) (fun _ => ?_) (fun z => absurd q.1 z)
  refine J_iload_5 X dL_law__2210 ?_
  have KE : J K (un h2x (un hm3 (one o (oc (kca K) (if X_culprit_c σ a1 = 0 then vp_updL g 0 (X_culprit σ a1).toInt64 else g))))) [some (.ref b), some (.ref (ρ 0 0)), some (.ref m), some (.ref o), some (.int (nI i)), some (.int (lawK (X_culprit_c σ a1) 1 0 0)), some (.int (M_culprit σ a1)), none] [] 2227 (cells + 1) (slots + 6) := by
    refine J_goto (tgt := 2310) X dL_law__2227 (by decide) ?_
    refine J.subL (lv' := [some (.ref b), some (.ref (ρ 0 0)), some (.ref m), some (.ref o), some (.int (nI i)), none, none, none]) ⟨rfl, rfl, rfl, rfl, rfl, trivial⟩ ?_
    exact J.widen (show cells + 1 ≤ cells + 8 by omega) (show slots + 6 ≤ slots + 148 by omega) (k _ _ _ _ ⟨F.1, ⟨ρm, hRM2⟩, F.2.1, F.2.2, b3, ap2, b4⟩)
  refine J_if_ne (tgt := 2227) X dL_law__2212 (by decide) (fun _ => KE) (fun z => ?_)
  have z0 : X_culprit_c σ a1 = 0 := by
    rcases C_culprit (σ := σ) (p1 := a1) with w | w
    · exact w
    · rw [w] at z; exact absurd z (by decide)
  refine J_aload_3 X dL_law__2215 ?_
  refine J_iconst (v := 0) X dL_law__2216 rfl ?_
  refine J_lald' X (N := 1) (v := (X_culprit σ a1).toInt64) (un_out ap2 b4) vp01 (by rw [if_pos z0]; exact updL0 _ _) dL_law__2217 ?_
  refine J_iload_6 X dL_law__2218 ?_
  refine J_i2l X dL_law__2220 ?_
  refine J_lcmp X dL_law__2221 ?_
  exact J_if_eq (tgt := 2227) X dL_law__2222 (by decide) (fun _ => KE) (fun z => absurd (lg_eq (congrArg Int32.toInt64 (q.2.1 z0).symm)) z)
theorem LC_plan {K : KT} {mn : String} {ret : Option FieldType} {tb : List ExceptionTableEntry} {w0 : Cond} {h0 : fH} {post : Option Value → fH → Prop} {px : String → fH → Prop} (X : JX K mn "NightValleyLaw" cL_law_ 8 ret tb w0 room_1 h0 post px) {b L i r m o : Nat} {xs : Nat → Int32} (S : LSc K b L i xs) : CASE K b r m o i 2230 := by
  intro hx hm g σ cells slots hLI hc hs k
  obtain ⟨⟨ρ, μ, cap, hR, hr, hcap⟩, ⟨ρm, hRM⟩, hI, hO, h1, h2, h3⟩ := hLI
  subst hr
  obtain ⟨S1, S2, S3, S4, S5⟩ := S
  generalize e1 : xs (nI i + 1).toNatClampNeg = a1
  generalize e2 : xs (nI i + 2).toNatClampNeg = a2
  generalize e3 : xs (nI i + 3).toNatClampNeg = a3
  refine J_aload_1 X dL_law__2230 ?_
  refine J_aload_0 X dL_law__2231 ?_
  refine J_iload_4 X dL_law__2232 ?_
  refine J_iconst (v := 1) X dL_law__2234 rfl ?_
  refine J_iadd X dL_law__2235 ?_
  refine J_sld X S1 S2 S3 (lin (j := 1) S5 S4 (by decide)) e1 dL_law__2236 ?_
  refine J_aload_0 X dL_law__2237 ?_
  refine J_iload_4 X dL_law__2238 ?_
  refine J_iconst (v := 2) X dL_law__2240 rfl ?_
  refine J_iadd X dL_law__2241 ?_
  refine J_sld X S1 S2 S3 (lin (j := 2) S5 S4 (by decide)) e2 dL_law__2242 ?_
  refine J_aload_0 X dL_law__2243 ?_
  refine J_iload_4 X dL_law__2244 ?_
  refine J_iconst (v := 3) X dL_law__2246 rfl ?_
  refine J_iadd X dL_law__2247 ?_
  refine J_sld X S1 S2 S3 (lin (j := 3) S5 S4 (by decide)) e3 dL_law__2248 ?_
  refine J_aload_3 X dL_law__2249 ?_
  refine J_callSW X (fr_x (c_L_plan hR hI hcap a1 a2 a3 h2) h1 h3) (And.intro gw_4_217 cw_L_plan) rfl (hroom2 (show cells + 3 ≤ 601024 by omega) (show slots + 18 ≤ 7293034 by omega)) (Nat.le_of_ble_eq_true rfl) dL_law__2250 rfl (fun v h' e => ?_) (fun E h' e => e.elim)
  obtain ⟨e0, h2x, hRA, ap1, ap2, e⟩ := e
  subst e0
  subst e
  show J K _ [some (.ref b), some (.ref (ρ 0 0)), some (.ref m), some (.ref o), some (.int (nI i)), none, none, none] [.int (lawK (X_plan_c σ μ a1 a2 a3) 1 2 0)] 2253 (cells + 3) (slots + 18)
  refine J_istore_5 X dL_law__2253 rfl (by decide) ?_
  refine J_aload_2 X dL_law__2255 ?_
  refine J_aload_0 X dL_law__2256 ?_
  refine J_iload_4 X dL_law__2257 ?_
  refine J_iconst (v := 1) X dL_law__2259 rfl ?_
  refine J_iadd X dL_law__2260 ?_
  refine J_sld X S1 S2 S3 (lin (j := 1) S5 S4 (by decide)) e1 dL_law__2261 ?_
  refine J_aload_0 X dL_law__2262 ?_
  refine J_iload_4 X dL_law__2263 ?_
  refine J_iconst (v := 2) X dL_law__2265 rfl ?_
  refine J_iadd X dL_law__2266 ?_
  refine J_sld X S1 S2 S3 (lin (j := 2) S5 S4 (by decide)) e2 dL_law__2267 ?_
  refine J_aload_0 X dL_law__2268 ?_
  refine J_iload_4 X dL_law__2269 ?_
  refine J_iconst (v := 3) X dL_law__2271 rfl ?_
  refine J_iadd X dL_law__2272 ?_
  refine J_sld X S1 S2 S3 (lin (j := 3) S5 S4 (by decide)) e3 dL_law__2273 ?_
  refine J_callV X (fr_m (c_M_plan hRM hI.1 a1 a2 a3) ap1 ap2 h3) (And.intro gw_6_107 cw_X11_plan) (un_mid_l ap1 hRM.1) rfl rfl (hroom2 (show cells + 3 ≤ 601024 by omega) (show slots + 18 ≤ 7293034 by omega)) (Nat.le_of_ble_eq_true rfl) dL_law__2274 rfl (fun v h' e => ?_) (fun E h' e => e.elim)
  obtain ⟨hm2, ⟨e0, hRM2⟩, b1, b2, e⟩ := e
  subst e0
  subst e
  show J K _ [some (.ref b), some (.ref (ρ 0 0)), some (.ref m), some (.ref o), some (.int (nI i)), some (.int (lawK (X_plan_c σ μ a1 a2 a3) 1 2 0)), none, none] [.int (M_plan σ a1 a2 a3)] 2277 (cells + 3) (slots + 18)
  refine J_istore_6 X dL_law__2277 rfl (by decide) ?_
  refine J_aload_2 X dL_law__2279 ?_
  refine J_callV X (fr_m (c_M_thrown hRM2) b1 ap2 b2) (And.intro gw_5_137 cw_X11_thrown) (un_mid_l b1 hRM2.1) rfl rfl (hroom2 (show cells + 3 ≤ 601024 by omega) (show slots + 18 ≤ 7293034 by omega)) (Nat.le_of_ble_eq_true rfl) dL_law__2280 rfl (fun v h' e => ?_) (fun E h' e => e.elim)
  obtain ⟨hm3, ⟨e0, e4⟩, b3, b4, e⟩ := e
  subst e0
  subst e
  subst e4
  show J K _ [some (.ref b), some (.ref (ρ 0 0)), some (.ref m), some (.ref o), some (.int (nI i)), some (.int (lawK (X_plan_c σ μ a1 a2 a3) 1 2 0)), some (.int (M_plan σ a1 a2 a3)), none] [.int (M_thrown (M_plan_s σ a1 a2 a3))] 2283 (cells + 3) (slots + 18)
  have hcx : X_plan_c σ μ a1 a2 a3 = 0 ∨ X_plan_c σ μ a1 a2 a3 = 1 ∨ X_plan_c σ μ a1 a2 a3 = 2 ∨ X_plan_c σ μ a1 a2 a3 = 3 := by
    rcases C_plan (σ := σ) (μ := μ) (p1 := a1) (p2 := a2) (p3 := a3) with z | z | z <;> rw [z] <;> decide
  have q := (Q_plan hI hO μ a1 a2 a3).law hcx
  have F := fin3 hRA hRA hI hO (Or.inr rfl) q.2.2.1 q.2.2.2 hI hO
  refine J_iload_5 X dL_law__2283 ?_
  refine J_icmp_eq (tgt := 2290) X dL_law__2285 (by decide) (fun _ => ?_) (fun z => absurd q.1 z)
  refine J_iload_5 X dL_law__2290 ?_
  have KE : J K (un h2x (un hm3 (one o (oc (kca K) (if X_plan_c σ μ a1 a2 a3 = 0 then vp_updL g 0 (X_plan σ μ a1 a2 a3).toInt64 else g))))) [some (.ref b), some (.ref (ρ 0 0)), some (.ref m), some (.ref o), some (.int (nI i)), some (.int (lawK (X_plan_c σ μ a1 a2 a3) 1 2 0)), some (.int (M_plan σ a1 a2 a3)), none] [] 2307 (cells + 3) (slots + 18) := by
    refine J_goto (tgt := 2310) X dL_law__2307 (by decide) ?_
    refine J.subL (lv' := [some (.ref b), some (.ref (ρ 0 0)), some (.ref m), some (.ref o), some (.int (nI i)), none, none, none]) ⟨rfl, rfl, rfl, rfl, rfl, trivial⟩ ?_
    exact J.widen (show cells + 3 ≤ cells + 8 by omega) (show slots + 18 ≤ slots + 148 by omega) (k _ _ _ _ ⟨F.1, ⟨ρm, hRM2⟩, F.2.1, F.2.2, b3, ap2, b4⟩)
  refine J_if_ne (tgt := 2307) X dL_law__2292 (by decide) (fun _ => KE) (fun z => ?_)
  have z0 : X_plan_c σ μ a1 a2 a3 = 0 := by
    rcases C_plan (σ := σ) (μ := μ) (p1 := a1) (p2 := a2) (p3 := a3) with w | w | w
    · exact w
    · rw [w] at z; exact absurd z (by decide)
    · rw [w] at z; exact absurd z (by decide)
  refine J_aload_3 X dL_law__2295 ?_
  refine J_iconst (v := 0) X dL_law__2296 rfl ?_
  refine J_lald' X (N := 1) (v := (X_plan σ μ a1 a2 a3).toInt64) (un_out ap2 b4) vp01 (by rw [if_pos z0]; exact updL0 _ _) dL_law__2297 ?_
  refine J_iload_6 X dL_law__2298 ?_
  refine J_i2l X dL_law__2300 ?_
  refine J_lcmp X dL_law__2301 ?_
  exact J_if_eq (tgt := 2307) X dL_law__2302 (by decide) (fun _ => KE) (fun z => absurd (lg_eq (congrArg Int32.toInt64 (q.2.1 z0).symm)) z)
end
