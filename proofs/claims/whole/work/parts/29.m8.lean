/-! The reference: its face, third part. Printed by wip/whole/m8.py -/
theorem pot_wfl {T : CT} {v : Nat} : pot (T.w_fl v) = pot T := rfl
theorem JI.w_fl {T : CT} (h : JI T) {v : Nat} (hv : v ≤ 30) : JI (T.w_fl v) := ⟨h.1.w_fl hv, h.2.1, h.2.2⟩
def y_ch (T : CT) (o : Nat) : Nat → CT
  | 0 => T
  | i + 1 => if (y_ch T o i).par i = some o then y_end (y_ch T o i) i else y_ch T o i
theorem ch_B {T : CT} {o : Nat} (h : Bd T) : ∀ i, Bd (y_ch T o i)
  | 0 => h
  | i + 1 => by
    have := ch_B (o := o) h i
    unfold y_ch
    split
    · exact this.end
    · exact this
def y_clr (T : CT) (o : Nat) : Nat → CT
  | 0 => T
  | i + 1 => (((y_clr T o i).p_shown o i 0).p_src o i none).p_ow o i false
def y_f0 (T : CT) (o : Nat) : CT := (y_away T o).p_up o false
def y_fail (T : CT) (o : Nat) : CT := y_clr (y_ch (y_f0 T o) o 12) o 40
def z_fail (T : CT) (a : Int32) : Int32 × CT := match inR a 12 with
  | none => (0, T.w_code 1)
  | some o => if T.up o = true then (if T.fl = 30 then (0, T.w_code 3) else (nI (y_kids ((T.w_code 0).w_fl (T.fl + 1)) o), y_fail ((T.w_code 0).w_fl (T.fl + 1)) o)) else (0, T.w_code 2)
theorem m_fail {l : Launch} {D : gzD} {K : gzK} {M : gzM} {n nc ns : Nat} {M0 : gzM} {S : gS} {L : gL} {T : CT} (hR : RF M0 S L M) (hT : Rel 12 true S T) {xo : Int32} (hI : JI T) (hP : pot T + 40 ≤ 9000) (k : ∀ S M, RF M0 S L M → Rel 12 true S (z_fail T xo).2 → K (.inl (some (.int (z_fail T xo).1))) M n nc ns) : GZ l P1 D F_M_fail K 0 [some (.ref 83), some (.int xo), none, none] [] M n nc ns := by
  refine gz_aload_n gd_M_fail_0 rfl rfl (gz_isr.r _) ?_
  refine gz_iload_n gd_M_fail_1 rfl rfl ?_
  refine gz_static1 gd_M_fail_2 gs_M_fail_2 (Nat.le_of_ble_eq_true rfl) (Nat.le_of_ble_eq_true rfl) ?_
  refine m_isOffice (fun ha hb => ?_) (fun ha => ?_)
  ·
    obtain ⟨o, ho, rfl⟩ := of_ix ha hb
    have eo := inR_s ho (show 12 < 2 ^ 31 by decide)
    refine gz_if_ne (tgt := 12) gd_M_fail_5 (by decide) (fun h5 => ?_) (fun h5 => ?_)
    ·
      refine gz_aload_n gd_M_fail_12 rfl rfl (gz_isr.r _) ?_
      refine md_getf gd_M_fail_13 gf_M_35 hR rfl ?_
      refine gz_iload_n gd_M_fail_16 rfl rfl ?_
      refine mt_zaload (a := 92) (i := o) gd_M_fail_17 hR rfl rfl (show _ < 12 from (by omega)) (hT.up o (by omega)) ?_
      refine gz_if_ne (tgt := 25) gd_M_fail_18 (by decide) (fun h18 => ?_) (fun h18 => ?_)
      ·
        replace h18 := bI_n.1 h18
        refine gz_aload_n gd_M_fail_25 rfl rfl (gz_isr.r _) ?_
        refine mt_geti gd_M_fail_26 gf_M_169 hR rfl (show _ = nI T.fl from hT.fl) ?_
        refine gz_bipush (v := 30) gd_M_fail_29 (by decide) ?_
        refine gz_icmp_ne (tgt := 38) gd_M_fail_31 (by decide) (fun h31 => ?_) (fun h31 => ?_)
        ·
          replace h31 := mt (nI_eq (a := T.fl) (b := 30) (by have := hI.1.fl; omega) (by have := hI.1.fl; omega)).2 h31
          refine gz_iconst (v := 0) gd_M_fail_38 (by decide) ?_
          refine mt_puti (T := T.w_code 0) gd_M_fail_39 gf_M_100 gr_M_fail_6_0 hR rfl hT.s_code (fun S M hR hT => ?_)
          refine gz_aload_n gd_M_fail_42 rfl rfl (gz_isr.r _) ?_
          refine mt_geti gd_M_fail_43 gf_M_100 hR rfl (show _ = (0 : Int32) from hT.code) ?_
          refine gz_if_le (tgt := 51) gd_M_fail_46 (by decide) (fun h46 => ?_) (fun h46 => ?_)
          ·
            refine gz_aload_n gd_M_fail_51 rfl rfl (gz_isr.r _) ?_
            refine gz_dup gd_M_fail_52 rfl ?_
            refine mt_geti gd_M_fail_53 gf_M_169 hR rfl (show _ = nI T.fl from hT.fl) ?_
            refine gz_iconst (v := 1) gd_M_fail_56 (by decide) ?_
            refine gq_iadd (z := nI (T.fl + 1)) gd_M_fail_57 (nI_add T.fl 1) ?_
            have hJF : JI ((T.w_code 0).w_fl (T.fl + 1)) := JI.w_fl (JI.code (v := 0) hI) (by have := hI.1.fl; omega)
            refine mt_puti (T := ((T.w_code 0).w_fl (T.fl + 1))) gd_M_fail_58 gf_M_169 gr_M_fail_6_30 hR rfl (hT.s_fl rfl) (fun S M hR hT => ?_)
            refine gz_aload_n gd_M_fail_61 rfl rfl (gz_isr.r _) ?_
            refine gz_iload_n gd_M_fail_62 rfl rfl ?_
            refine gz_virtual1 gd_M_fail_63 hR.1 rfl rfl gs_M_fail_63 (Nat.le_of_ble_eq_true rfl) (Nat.le_of_ble_eq_true rfl) ?_
            refine m_childrenOf (T := ((T.w_code 0).w_fl (T.fl + 1))) (o := o) hR hT ho hJF.1 ?_
            refine gz_istore_n gd_M_fail_66 rfl (Nat.le_of_ble_eq_true rfl) rfl ?_
            refine gz_aload_n gd_M_fail_67 rfl rfl (gz_isr.r _) ?_
            refine gz_iload_n gd_M_fail_68 rfl rfl ?_
            refine gz_virtual1 gd_M_fail_69 hR.1 rfl rfl gs_M_fail_69 (Nat.le_of_ble_eq_true rfl) (Nat.le_of_ble_eq_true rfl) ?_
            have hPF : pot ((T.w_code 0).w_fl (T.fl + 1)) + 40 ≤ 9000 := by rw [pot_wfl, pot_code]; exact hP
            have hB0 : Bd (y_f0 ((T.w_code 0).w_fl (T.fl + 1)) o) := (away_J hJF ho hPF).1.w_up
            refine m_takeAway (T := ((T.w_code 0).w_fl (T.fl + 1))) (o := o) hR hT ho hJF hPF (fun S M hR hT => ?_)
            refine gz_aload_n gd_M_fail_72 rfl rfl (gz_isr.r _) ?_
            refine md_getf gd_M_fail_73 gf_M_35 hR rfl ?_
            refine gz_iload_n gd_M_fail_76 rfl rfl ?_
            refine gz_iconst (v := 0) gd_M_fail_77 (by decide) ?_
            refine mt_zastore (T := y_f0 ((T.w_code 0).w_fl (T.fl + 1)) o) (a := 92) (i := o) (t := false) gd_M_fail_78 hR rfl rfl (show _ < 12 from (by omega)) (hT.s_up ho rfl) (fun S M hR hT => ?_)
            refine gz_iconst (v := 0) gd_M_fail_79 (by decide) ?_
            refine gz_istore_n gd_M_fail_80 rfl (Nat.le_of_ble_eq_true rfl) rfl ?_
            have loop1 : ∀ (j i : Nat), i + j = 12 → ∀ S M, RF M0 S L M → Rel 12 true S (y_ch (y_f0 ((T.w_code 0).w_fl (T.fl + 1)) o) o i) → GZ l P1 D F_M_fail K 81 [some (.ref 83), some (.int (nI o)), some (.int (nI (y_kids ((T.w_code 0).w_fl (T.fl + 1)) o))), some (.int (nI i))] [] M n nc ns := by
              intro j
              induction j with
              | zero =>
                intro i hi S M hR hT
                have hB := ch_B (o := o) hB0 i
                refine gz_iload_n gd_M_fail_81 rfl rfl ?_
                refine gz_bipush (v := 12) gd_M_fail_82 (by decide) ?_
                refine gz_icmp_ge (tgt := 108) gd_M_fail_84 (by decide) (fun h84 => ?_) (fun h84 => ?_)
                ·
                  replace h84 := (nI_leI (a := 12) (b := i) (by omega) (by omega)).1 h84
                  refine gz_bipush (v := 40) gd_M_fail_108 (by decide) ?_
                  refine gz_iload_n gd_M_fail_110 rfl rfl ?_
                  refine gq_imul (z := nI (40 * o)) gd_M_fail_111 (pk_mul 40 o) ?_
                  refine gz_istore_n gd_M_fail_112 rfl (Nat.le_of_ble_eq_true rfl) rfl ?_
                  have e12 : i = 12 := by omega
                  rw [e12] at hT
                  have loop2 : ∀ (j i : Nat), i + j = 40 → ∀ S M, RF M0 S L M → Rel 12 true S (y_clr (y_ch (y_f0 ((T.w_code 0).w_fl (T.fl + 1)) o) o 12) o i) → GZ l P1 D F_M_fail K 113 [some (.ref 83), some (.int (nI o)), some (.int (nI (y_kids ((T.w_code 0).w_fl (T.fl + 1)) o))), some (.int (nI (40 * o + i)))] [] M n nc ns := by
                    intro j
                    induction j with
                    | zero =>
                      intro i hi S M hR hT
                      refine gz_iload_n gd_M_fail_113 rfl rfl ?_
                      refine gz_bipush (v := 40) gd_M_fail_114 (by decide) ?_
                      refine gz_iload_n gd_M_fail_116 rfl rfl ?_
                      refine gq_imul (z := nI (40 * o)) gd_M_fail_117 (pk_mul 40 o) ?_
                      refine gz_bipush (v := 40) gd_M_fail_118 (by decide) ?_
                      refine gq_iadd (z := nI (40 * o + 40)) gd_M_fail_120 (nI_add (40 * o) 40) ?_
                      refine gz_icmp_ge (tgt := 151) gd_M_fail_121 (by decide) (fun h121 => ?_) (fun h121 => ?_)
                      ·
                        replace h121 := (nI_leI (a := 40 * o + 40) (b := 40 * o + i) (by omega) (by omega)).1 h121
                        refine gz_iload_n gd_M_fail_151 rfl rfl ?_
                        refine gz_ireturn gd_M_fail_152 rfl rfl ?_
                        have e40 : i = 40 := by omega
                        rw [e40] at hT
                        simp only [z_fail, eo, if_pos h18, if_neg h31] at k
                        exact k _ _ hR hT
                      ·
                        replace h121 := mt (nI_leI (a := 40 * o + 40) (b := 40 * o + i) (by omega) (by omega)).2 h121
                        omega
                    | succ j ih =>
                      intro i hi S M hR hT
                      refine gz_iload_n gd_M_fail_113 rfl rfl ?_
                      refine gz_bipush (v := 40) gd_M_fail_114 (by decide) ?_
                      refine gz_iload_n gd_M_fail_116 rfl rfl ?_
                      refine gq_imul (z := nI (40 * o)) gd_M_fail_117 (pk_mul 40 o) ?_
                      refine gz_bipush (v := 40) gd_M_fail_118 (by decide) ?_
                      refine gq_iadd (z := nI (40 * o + 40)) gd_M_fail_120 (nI_add (40 * o) 40) ?_
                      refine gz_icmp_ge (tgt := 151) gd_M_fail_121 (by decide) (fun h121 => ?_) (fun h121 => ?_)
                      ·
                        replace h121 := (nI_leI (a := 40 * o + 40) (b := 40 * o + i) (by omega) (by omega)).1 h121
                        omega
                      ·
                        replace h121 := mt (nI_leI (a := 40 * o + 40) (b := 40 * o + i) (by omega) (by omega)).2 h121
                        refine gz_aload_n gd_M_fail_124 rfl rfl (gz_isr.r _) ?_
                        refine md_getf gd_M_fail_125 gf_M_44 hR rfl ?_
                        refine gz_iload_n gd_M_fail_128 rfl rfl ?_
                        refine gz_iconst (v := 0) gd_M_fail_129 (by decide) ?_
                        refine mt_iastore (T := (y_clr (y_ch (y_f0 ((T.w_code 0).w_fl (T.fl + 1)) o) o 12) o i).p_shown o i 0) (a := 95) (i := 40 * o + i) gd_M_fail_130 hR rfl rfl (show _ < 480 from (by omega)) (hT.s_shown ho (by omega) rfl) (fun S M hR hT => ?_)
                        refine gz_aload_n gd_M_fail_131 rfl rfl (gz_isr.r _) ?_
                        refine md_getf gd_M_fail_132 gf_M_47 hR rfl ?_
                        refine gz_iload_n gd_M_fail_135 rfl rfl ?_
                        refine gz_iconst (v := -1) gd_M_fail_136 (by decide) ?_
                        refine mt_iastore (T := ((y_clr (y_ch (y_f0 ((T.w_code 0).w_fl (T.fl + 1)) o) o 12) o i).p_shown o i 0).p_src o i none) (a := 96) (i := 40 * o + i) gd_M_fail_137 hR rfl rfl (show _ < 480 from (by omega)) (hT.s_src ho (by omega) rfl) (fun S M hR hT => ?_)
                        refine gz_aload_n gd_M_fail_138 rfl rfl (gz_isr.r _) ?_
                        refine md_getf gd_M_fail_139 gf_M_50 hR rfl ?_
                        refine gz_iload_n gd_M_fail_142 rfl rfl ?_
                        refine gz_iconst (v := 0) gd_M_fail_143 (by decide) ?_
                        refine mt_zastore (T := (((y_clr (y_ch (y_f0 ((T.w_code 0).w_fl (T.fl + 1)) o) o 12) o i).p_shown o i 0).p_src o i none).p_ow o i false) (a := 97) (i := 40 * o + i) (t := false) gd_M_fail_144 hR rfl rfl (show _ < 480 from (by omega)) (hT.s_ow ho (by omega) rfl) (fun S M hR hT => ?_)
                        refine gz_iinc (v := nI (40 * o + i + 1)) gd_M_fail_145 rfl (nI_1 (40 * o + i)) (Nat.le_of_ble_eq_true rfl) rfl ?_
                        refine gz_goto (tgt := 113) gd_M_fail_148 (by decide) ?_
                        exact ih (i + 1) (by omega) _ _ hR hT
                  exact loop2 40 0 (by omega) _ _ hR hT
                ·
                  replace h84 := mt (nI_leI (a := 12) (b := i) (by omega) (by omega)).2 h84
                  omega
              | succ j ih =>
                intro i hi S M hR hT
                have hB := ch_B (o := o) hB0 i
                refine gz_iload_n gd_M_fail_81 rfl rfl ?_
                refine gz_bipush (v := 12) gd_M_fail_82 (by decide) ?_
                refine gz_icmp_ge (tgt := 108) gd_M_fail_84 (by decide) (fun h84 => ?_) (fun h84 => ?_)
                ·
                  replace h84 := (nI_leI (a := 12) (b := i) (by omega) (by omega)).1 h84
                  omega
                ·
                  replace h84 := mt (nI_leI (a := 12) (b := i) (by omega) (by omega)).2 h84
                  refine gz_aload_n gd_M_fail_87 rfl rfl (gz_isr.r _) ?_
                  refine md_getf gd_M_fail_88 gf_M_38 hR rfl ?_
                  refine gz_iload_n gd_M_fail_91 rfl rfl ?_
                  refine mt_iaload (a := 93) (i := i) gd_M_fail_92 hR rfl rfl (show _ < 12 from (by omega)) (hT.par i (by omega)) ?_
                  refine gz_iload_n gd_M_fail_93 rfl rfl ?_
                  refine gz_icmp_ne (tgt := 102) gd_M_fail_94 (by decide) (fun h94 => ?_) (fun h94 => ?_)
                  ·
                    replace h94 := mt (oI_eq (o := o) (fun j hj => hB.par _ _ (by omega) hj) (by omega)).2 h94
                    refine gz_iinc (v := nI (i + 1)) gd_M_fail_102 rfl (nI_1 i) (Nat.le_of_ble_eq_true rfl) rfl ?_
                    refine gz_goto (tgt := 81) gd_M_fail_105 (by decide) ?_
                    have e : y_ch (y_f0 ((T.w_code 0).w_fl (T.fl + 1)) o) o (i + 1) = (y_ch (y_f0 ((T.w_code 0).w_fl (T.fl + 1)) o) o i) := if_neg h94
                    exact ih (i + 1) (by omega) _ _ hR (by rw [e]; exact hT)
                  ·
                    replace h94 := (oI_eq (o := o) (fun j hj => hB.par _ _ (by omega) hj) (by omega)).1 h94
                    refine gz_aload_n gd_M_fail_97 rfl rfl (gz_isr.r _) ?_
                    refine gz_iload_n gd_M_fail_98 rfl rfl ?_
                    refine gz_virtual1 gd_M_fail_99 hR.1 rfl rfl gs_M_fail_99 (Nat.le_of_ble_eq_true rfl) (Nat.le_of_ble_eq_true rfl) ?_
                    refine m_endHanging (T := (y_ch (y_f0 ((T.w_code 0).w_fl (T.fl + 1)) o) o i)) (o := i) hR hT (by omega) (fun S M hR hT => ?_)
                    refine gz_iinc (v := nI (i + 1)) gd_M_fail_102 rfl (nI_1 i) (Nat.le_of_ble_eq_true rfl) rfl ?_
                    refine gz_goto (tgt := 81) gd_M_fail_105 (by decide) ?_
                    have e : y_ch (y_f0 ((T.w_code 0).w_fl (T.fl + 1)) o) o (i + 1) = y_end (y_ch (y_f0 ((T.w_code 0).w_fl (T.fl + 1)) o) o i) i := if_pos h94
                    exact ih (i + 1) (by omega) _ _ hR (by rw [e]; exact hT)
            exact loop1 12 0 (by omega) _ _ hR hT
          ·
            exact absurd h46 (by decide)
        ·
          replace h31 := (nI_eq (a := T.fl) (b := 30) (by have := hI.1.fl; omega) (by have := hI.1.fl; omega)).1 h31
          refine gz_iconst (v := 3) gd_M_fail_34 (by decide) ?_
          refine gz_goto (tgt := 39) gd_M_fail_35 (by decide) ?_
          refine mt_puti (T := T.w_code 3) gd_M_fail_39 gf_M_100 gr_M_fail_6_0 hR rfl hT.s_code (fun S M hR hT => ?_)
          refine gz_aload_n gd_M_fail_42 rfl rfl (gz_isr.r _) ?_
          refine mt_geti gd_M_fail_43 gf_M_100 hR rfl (show _ = (3 : Int32) from hT.code) ?_
          refine gz_if_le (tgt := 51) gd_M_fail_46 (by decide) (fun h46 => ?_) (fun h46 => ?_)
          ·
            exact absurd h46 (by decide)
          ·
            refine gz_iconst (v := 0) gd_M_fail_49 (by decide) ?_
            refine gz_ireturn gd_M_fail_50 rfl rfl ?_
            simp only [z_fail, eo, if_pos h18, if_pos h31] at k
            exact k _ _ hR hT
      ·
        replace h18 := bI_0.1 h18
        refine gz_iconst (v := 2) gd_M_fail_21 (by decide) ?_
        refine gz_goto (tgt := 39) gd_M_fail_22 (by decide) ?_
        refine mt_puti (T := T.w_code 2) gd_M_fail_39 gf_M_100 gr_M_fail_6_0 hR rfl hT.s_code (fun S M hR hT => ?_)
        refine gz_aload_n gd_M_fail_42 rfl rfl (gz_isr.r _) ?_
        refine mt_geti gd_M_fail_43 gf_M_100 hR rfl (show _ = (2 : Int32) from hT.code) ?_
        refine gz_if_le (tgt := 51) gd_M_fail_46 (by decide) (fun h46 => ?_) (fun h46 => ?_)
        ·
          exact absurd h46 (by decide)
        ·
          refine gz_iconst (v := 0) gd_M_fail_49 (by decide) ?_
          refine gz_ireturn gd_M_fail_50 rfl rfl ?_
          simp only [z_fail, eo, if_neg (bf h18)] at k
          exact k _ _ hR hT
    ·
      exact absurd h5 (by decide)
  ·
    have eo := inR_n (n := 11) (by decide) rfl ha
    refine gz_if_ne (tgt := 12) gd_M_fail_5 (by decide) (fun h5 => ?_) (fun h5 => ?_)
    ·
      exact absurd h5 (by decide)
    ·
      refine gz_iconst (v := 1) gd_M_fail_8 (by decide) ?_
      refine gz_goto (tgt := 39) gd_M_fail_9 (by decide) ?_
      refine mt_puti (T := T.w_code 1) gd_M_fail_39 gf_M_100 gr_M_fail_6_0 hR rfl hT.s_code (fun S M hR hT => ?_)
      refine gz_aload_n gd_M_fail_42 rfl rfl (gz_isr.r _) ?_
      refine mt_geti gd_M_fail_43 gf_M_100 hR rfl (show _ = (1 : Int32) from hT.code) ?_
      refine gz_if_le (tgt := 51) gd_M_fail_46 (by decide) (fun h46 => ?_) (fun h46 => ?_)
      ·
        exact absurd h46 (by decide)
      ·
        refine gz_iconst (v := 0) gd_M_fail_49 (by decide) ?_
        refine gz_ireturn gd_M_fail_50 rfl rfl ?_
        simp only [z_fail, eo] at k
        exact k _ _ hR hT
