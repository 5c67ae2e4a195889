/-! The reference: move. Printed by wip/whole/m11.py -/
def y_give (T : CT) (h p : Nat) : CT := if T.up h = true then y_try (y_unset (T.p_ow h p false) h p h) h else T
def z_94 (G : CT) (p o : Nat) : Bool × CT := if G.up o = true then (if G.last p = 0 then (false, G) else (y_may G o p o, y_own G o p)) else (false, G)
def z_move (T : CT) (a b : Int32) : Bool × CT := match isP T a with
  | none => (false, T.w_code 1)
  | some p => match inR b 12 with
    | none => (false, T.w_code 1)
    | some o => if T.home p = o then (false, T.w_code 2) else z_94 (y_give ((T.w_code 0).p_home p o) (T.home p) p) p o
theorem give_J {T : CT} (h : JI T) {u p : Nat} (hu : u < 12) (hp : p < 40) (hP : pot T < 9000) : JI (y_give T u p) ∧ pot (y_give T u p) ≤ pot T + 1 := by
  unfold y_give
  split
  · obtain ⟨h1, h2⟩ := h.p_ow0 hu hp
    have h3 := pot_unset (T := T.p_ow u p false) (o := u) (p := p) (j := u) hu
    have h4 := h1.unset (j := u) hu hp (by omega)
    exact ⟨try_JI h4 hu, Nat.le_trans (pot_try hu) (by omega)⟩
  · exact ⟨h, Nat.le_succ _⟩
theorem m_move94 {l : Launch} {D : gzD} {K : gzK} {M : gzM} {n nc ns : Nat} {M0 : gzM} {S : gS} {L : gL} {G : CT} (hR : RF M0 S L M) (hT : Rel 12 true S G) {p o : Nat} {x3 : Int32} (hp : p < 40) (ho : o < 12) (hJ : JI G) (hP : pot G < 9000) (k : ∀ S M, RF M0 S L M → Rel 12 true S (z_94 G p o).2 → K (.inl (some (.int (bI (z_94 G p o).1)))) M n nc ns) : GZ l P1 D F_M_move K 94 [some (.ref 83), some (.int (nI p)), some (.int (nI o)), some (.int x3)] [] M n nc ns := by
  have hB := hJ.1
  refine gz_aload_n gd_M_move_94 rfl rfl (gz_isr.r _) ?_
  refine md_getf gd_M_move_95 gf_M_35 hR rfl ?_
  refine gz_iload_n gd_M_move_98 rfl rfl ?_
  refine mt_zaload (a := 92) (i := o) gd_M_move_99 hR rfl rfl (show _ < 12 from (by omega)) (hT.up o (by omega)) ?_
  refine gz_if_eq (tgt := 125) gd_M_move_100 (by decide) (fun h100 => ?_) (fun h100 => ?_)
  ·
    replace h100 := bI_0.1 h100
    refine gz_iconst (v := 0) gd_M_move_125 (by decide) ?_
    refine gz_ireturn gd_M_move_126 rfl rfl ?_
    simp only [z_94, if_neg (bf h100)] at k
    exact k _ _ hR hT
  ·
    replace h100 := bI_n.1 h100
    refine gz_aload_n gd_M_move_103 rfl rfl (gz_isr.r _) ?_
    refine md_getf gd_M_move_104 gf_M_20 hR rfl ?_
    refine gz_iload_n gd_M_move_107 rfl rfl ?_
    refine mt_iaload (a := 87) (i := p) gd_M_move_108 hR rfl rfl (show _ < 40 from (by omega)) (hT.last p (by omega)) ?_
    refine gz_if_le (tgt := 125) gd_M_move_109 (by decide) (fun h109 => ?_) (fun h109 => ?_)
    ·
      replace h109 := (nI_le0 (by have := hB.last p hp; have := hB.vs; omega)).1 h109
      refine gz_iconst (v := 0) gd_M_move_125 (by decide) ?_
      refine gz_ireturn gd_M_move_126 rfl rfl ?_
      simp only [z_94, if_pos h100, if_pos h109] at k
      exact k _ _ hR hT
    ·
      replace h109 := mt (nI_le0 (by have := hB.last p hp; have := hB.vs; omega)).2 h109
      refine gz_aload_n gd_M_move_112 rfl rfl (gz_isr.r _) ?_
      refine gz_iload_n gd_M_move_113 rfl rfl ?_
      refine gz_iload_n gd_M_move_114 rfl rfl ?_
      refine gz_virtual2 gd_M_move_115 hR.1 rfl rfl gs_M_move_115 (Nat.le_of_ble_eq_true rfl) (Nat.le_of_ble_eq_true rfl) ?_
      refine m_setsOwn (T := G) (o := o) (p := p) hR hT ho hp (Nat.le_trans (hB.shown o p ho hp) hB.vs) (fun z hz => hB.src o p z ho hp hz) (fun z hz => hB.par o z ho hz) (Nat.le_trans (hB.last p hp) hB.vs) (by omega) (lineL ho (by omega)) hB.postN (fun S M hR hT => ?_)
      refine gz_if_eq (tgt := 125) gd_M_move_118 (by decide) (fun h118 => ?_) (fun h118 => ?_)
      ·
        replace h118 := bI_0.1 h118
        refine gz_iconst (v := 0) gd_M_move_125 (by decide) ?_
        refine gz_ireturn gd_M_move_126 rfl rfl ?_
        simp only [z_94, if_pos h100, if_neg h109, h118] at k
        exact k _ _ hR hT
      ·
        replace h118 := bI_n.1 h118
        refine gz_iconst (v := 1) gd_M_move_121 (by decide) ?_
        refine gz_goto (tgt := 126) gd_M_move_122 (by decide) ?_
        refine gz_ireturn gd_M_move_126 rfl rfl ?_
        simp only [z_94, if_pos h100, if_neg h109, h118] at k
        exact k _ _ hR hT

theorem m_move61 {l : Launch} {D : gzD} {K : gzK} {M : gzM} {n nc ns : Nat} {M0 : gzM} {S : gS} {L : gL} {G : CT} (hR : RF M0 S L M) (hT : Rel 12 true S G) {p o h : Nat} (hp : p < 40) (ho : o < 12) (hh : h < 12) (hJ : JI G) (hP : pot G + 2 ≤ 9000) (k : ∀ S M, RF M0 S L M → Rel 12 true S (z_94 (y_give G h p) p o).2 → K (.inl (some (.int (bI (z_94 (y_give G h p) p o).1)))) M n nc ns) : GZ l P1 D F_M_move K 61 [some (.ref 83), some (.int (nI p)), some (.int (nI o)), some (.int (nI h))] [] M n nc ns := by
  refine gz_aload_n gd_M_move_61 rfl rfl (gz_isr.r _) ?_
  refine md_getf gd_M_move_62 gf_M_35 hR rfl ?_
  refine gz_iload_n gd_M_move_65 rfl rfl ?_
  refine mt_zaload (a := 92) (i := h) gd_M_move_66 hR rfl rfl (show _ < 12 from (by omega)) (hT.up h (by omega)) ?_
  refine gz_if_eq (tgt := 94) gd_M_move_67 (by decide) (fun h67 => ?_) (fun h67 => ?_)
  ·
    replace h67 := bI_0.1 h67
    replace hT : Rel 12 true S (y_give G h p) := by unfold y_give; rw [if_neg (bf h67)]; exact hT
    obtain ⟨hJ1, hJ2⟩ := give_J (u := h) (p := p) hJ hh hp (by omega)
    exact m_move94 hR hT hp ho hJ1 (by omega) k
  ·
    replace h67 := bI_n.1 h67
    refine gz_aload_n gd_M_move_70 rfl rfl (gz_isr.r _) ?_
    refine md_getf gd_M_move_71 gf_M_50 hR rfl ?_
    refine gz_bipush (v := 40) gd_M_move_74 (by decide) ?_
    refine gz_iload_n gd_M_move_76 rfl rfl ?_
    refine gq_imul (z := nI (40 * h)) gd_M_move_77 (pk_mul 40 h) ?_
    refine gz_iload_n gd_M_move_78 rfl rfl ?_
    refine gq_iadd (z := nI (40 * h + p)) gd_M_move_79 (nI_add (40 * h) p) ?_
    refine gz_iconst (v := 0) gd_M_move_80 (by decide) ?_
    refine mt_zastore (T := G.p_ow h p false) (a := 97) (i := 40 * h + p) (t := false) gd_M_move_81 hR rfl rfl (show _ < 480 from (by omega)) (hT.s_ow hh hp rfl) (fun S M hR hT => ?_)
    refine gz_aload_n gd_M_move_82 rfl rfl (gz_isr.r _) ?_
    refine gz_iload_n gd_M_move_83 rfl rfl ?_
    refine gz_iload_n gd_M_move_84 rfl rfl ?_
    refine gz_iload_n gd_M_move_85 rfl rfl ?_
    refine gz_virtual3 gd_M_move_86 hR.1 rfl rfl gs_M_move_86 (Nat.le_of_ble_eq_true rfl) (Nat.le_of_ble_eq_true rfl) ?_
    refine m_unset (T := G.p_ow h p false) (o := h) (p := p) (j := h) hR hT hh hp hh (Nat.le_trans (hJ.1.shown h p hh hp) hJ.1.vs) (hJ.1.srcN h p hh hp) (fun z hz => hJ.1.src h p z hh hp hz) (fun z hz => hJ.1.par h z hh hz) (lineL hh (by have := (hJ.p_ow0 hh hp).2; omega)) hJ.1.postN (fun S M hR hT => ?_)
    refine gz_aload_n gd_M_move_89 rfl rfl (gz_isr.r _) ?_
    refine gz_iload_n gd_M_move_90 rfl rfl ?_
    refine gz_virtual1 gd_M_move_91 hR.1 rfl rfl gs_M_move_91 (Nat.le_of_ble_eq_true rfl) (Nat.le_of_ble_eq_true rfl) ?_
    refine m_tryAll (T := y_unset (G.p_ow h p false) h p h) (o := h) hR hT hh (JI.unset (hJ.p_ow0 hh hp).1 hh hp (by have := (hJ.p_ow0 hh hp).2; omega)) (fun S M hR hT => ?_)
    replace hT : Rel 12 true S (y_give G h p) := by unfold y_give; rw [if_pos h67]; exact hT
    obtain ⟨hJ1, hJ2⟩ := give_J (u := h) (p := p) hJ hh hp (by omega)
    exact m_move94 hR hT hp ho hJ1 (by omega) k

theorem m_move {l : Launch} {D : gzD} {K : gzK} {M : gzM} {n nc ns : Nat} {M0 : gzM} {S : gS} {L : gL} {T : CT} (hR : RF M0 S L M) (hT : Rel 12 true S T) {xp xo : Int32} (hI : JI T) (hP : pot T + 2 ≤ 9000) (k : ∀ S M, RF M0 S L M → Rel 12 true S (z_move T xp xo).2 → K (.inl (some (.int (bI (z_move T xp xo).1)))) M n nc ns) : GZ l P1 D F_M_move K 0 [some (.ref 83), some (.int xp), some (.int xo), none] [] M n nc ns := by
  refine gz_aload_n gd_M_move_0 rfl rfl (gz_isr.r _) ?_
  refine gz_aload_n gd_M_move_1 rfl rfl (gz_isr.r _) ?_
  refine gz_iload_n gd_M_move_2 rfl rfl ?_
  refine gz_virtual1 gd_M_move_3 hR.1 rfl rfl gs_M_move_3 (Nat.le_of_ble_eq_true rfl) (Nat.le_of_ble_eq_true rfl) ?_
  refine m_isPrecinct hR hT (fun p hp e ht => ?_) (fun ha => ?_)
  ·
    subst e
    have ep := isP_s hp ht
    refine gz_if_eq (tgt := 16) gd_M_move_6 (by decide) (fun h6 => ?_) (fun h6 => ?_)
    ·
      exact absurd h6 (by decide)
    ·
      refine gz_iload_n gd_M_move_9 rfl rfl ?_
      refine gz_static1 gd_M_move_10 gs_M_move_10 (Nat.le_of_ble_eq_true rfl) (Nat.le_of_ble_eq_true rfl) ?_
      refine m_isOffice (fun ha hb => ?_) (fun ha => ?_)
      ·
        obtain ⟨o, ho, rfl⟩ := of_ix ha hb
        have eo := inR_s ho (show 12 < 2 ^ 31 by decide)
        refine gz_if_ne (tgt := 20) gd_M_move_13 (by decide) (fun h13 => ?_) (fun h13 => ?_)
        ·
          have hh := hI.1.home p hp
          refine gz_aload_n gd_M_move_20 rfl rfl (gz_isr.r _) ?_
          refine md_getf gd_M_move_21 gf_M_13 hR rfl ?_
          refine gz_iload_n gd_M_move_24 rfl rfl ?_
          refine mt_iaload (a := 85) (i := p) gd_M_move_25 hR rfl rfl (show _ < 40 from (by omega)) (hT.home p (by omega)) ?_
          refine gz_iload_n gd_M_move_26 rfl rfl ?_
          refine gz_icmp_ne (tgt := 34) gd_M_move_27 (by decide) (fun h27 => ?_) (fun h27 => ?_)
          ·
            replace h27 := mt (nI_eq (a := T.home p) (b := o) (by omega) (by omega)).2 h27
            refine gz_iconst (v := 0) gd_M_move_34 (by decide) ?_
            refine mt_puti (T := T.w_code 0) gd_M_move_35 gf_M_100 gr_M_move_6_0 hR rfl hT.s_code (fun S M hR hT => ?_)
            refine gz_aload_n gd_M_move_38 rfl rfl (gz_isr.r _) ?_
            refine mt_geti gd_M_move_39 gf_M_100 hR rfl (show _ = (0 : Int32) from hT.code) ?_
            refine gz_if_le (tgt := 47) gd_M_move_42 (by decide) (fun h42 => ?_) (fun h42 => ?_)
            ·
              refine gz_aload_n gd_M_move_47 rfl rfl (gz_isr.r _) ?_
              refine md_getf gd_M_move_48 gf_M_13 hR rfl ?_
              refine gz_iload_n gd_M_move_51 rfl rfl ?_
              refine mt_iaload (a := 85) (i := p) gd_M_move_52 hR rfl rfl (show _ < 40 from (by omega)) (show _ = nI (T.home p) from (hT.home p (by omega))) ?_
              refine gz_istore_n gd_M_move_53 rfl (Nat.le_of_ble_eq_true rfl) rfl ?_
              refine gz_aload_n gd_M_move_54 rfl rfl (gz_isr.r _) ?_
              refine md_getf gd_M_move_55 gf_M_13 hR rfl ?_
              refine gz_iload_n gd_M_move_58 rfl rfl ?_
              refine gz_iload_n gd_M_move_59 rfl rfl ?_
              refine mt_iastore (T := (T.w_code 0).p_home p o) (a := 85) (i := p) gd_M_move_60 hR rfl rfl (show _ < 40 from (by omega)) (hT.s_home hp rfl) (fun S M hR hT => ?_)
              simp only [z_move, ep, eo, if_neg h27] at k
              exact m_move61 (G := (T.w_code 0).p_home p o) hR hT hp ho hh (JI.p_home (JI.code hI) ho) (by rw [pot_phome, pot_code]; exact hP) k
            ·
              exact absurd h42 (by decide)
          ·
            replace h27 := (nI_eq (a := T.home p) (b := o) (by omega) (by omega)).1 h27
            refine gz_iconst (v := 2) gd_M_move_30 (by decide) ?_
            refine gz_goto (tgt := 35) gd_M_move_31 (by decide) ?_
            refine mt_puti (T := T.w_code 2) gd_M_move_35 gf_M_100 gr_M_move_6_0 hR rfl hT.s_code (fun S M hR hT => ?_)
            refine gz_aload_n gd_M_move_38 rfl rfl (gz_isr.r _) ?_
            refine mt_geti gd_M_move_39 gf_M_100 hR rfl (show _ = (2 : Int32) from hT.code) ?_
            refine gz_if_le (tgt := 47) gd_M_move_42 (by decide) (fun h42 => ?_) (fun h42 => ?_)
            ·
              exact absurd h42 (by decide)
            ·
              refine gz_iconst (v := 0) gd_M_move_45 (by decide) ?_
              refine gz_ireturn gd_M_move_46 rfl rfl ?_
              simp only [z_move, ep, eo, if_pos h27] at k
              exact k _ _ hR hT
        ·
          exact absurd h13 (by decide)
      ·
        have eo := inR_n (n := 11) (by decide) rfl ha
        refine gz_if_ne (tgt := 20) gd_M_move_13 (by decide) (fun h13 => ?_) (fun h13 => ?_)
        ·
          exact absurd h13 (by decide)
        ·
          refine gz_iconst (v := 1) gd_M_move_16 (by decide) ?_
          refine gz_goto (tgt := 35) gd_M_move_17 (by decide) ?_
          refine mt_puti (T := T.w_code 1) gd_M_move_35 gf_M_100 gr_M_move_6_0 hR rfl hT.s_code (fun S M hR hT => ?_)
          refine gz_aload_n gd_M_move_38 rfl rfl (gz_isr.r _) ?_
          refine mt_geti gd_M_move_39 gf_M_100 hR rfl (show _ = (1 : Int32) from hT.code) ?_
          refine gz_if_le (tgt := 47) gd_M_move_42 (by decide) (fun h42 => ?_) (fun h42 => ?_)
          ·
            exact absurd h42 (by decide)
          ·
            refine gz_iconst (v := 0) gd_M_move_45 (by decide) ?_
            refine gz_ireturn gd_M_move_46 rfl rfl ?_
            simp only [z_move, ep, eo] at k
            exact k _ _ hR hT
  ·
    have ep := isP_n ha
    refine gz_if_eq (tgt := 16) gd_M_move_6 (by decide) (fun h6 => ?_) (fun h6 => ?_)
    ·
      refine gz_iconst (v := 1) gd_M_move_16 (by decide) ?_
      refine gz_goto (tgt := 35) gd_M_move_17 (by decide) ?_
      refine mt_puti (T := T.w_code 1) gd_M_move_35 gf_M_100 gr_M_move_6_0 hR rfl hT.s_code (fun S M hR hT => ?_)
      refine gz_aload_n gd_M_move_38 rfl rfl (gz_isr.r _) ?_
      refine mt_geti gd_M_move_39 gf_M_100 hR rfl (show _ = (1 : Int32) from hT.code) ?_
      refine gz_if_le (tgt := 47) gd_M_move_42 (by decide) (fun h42 => ?_) (fun h42 => ?_)
      ·
        exact absurd h42 (by decide)
      ·
        refine gz_iconst (v := 0) gd_M_move_45 (by decide) ?_
        refine gz_ireturn gd_M_move_46 rfl rfl ?_
        simp only [z_move, ep] at k
        exact k _ _ hR hT
    ·
      exact absurd h6 (by decide)
