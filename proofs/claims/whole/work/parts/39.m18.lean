/-! The reference: version. Printed by wip/whole/m18.py -/
def y_ver (G : CT) (p d : Nat) (v inv bal : Int32) : Int32 × CT := (y_mark ((y_vl G d inv 6).1.reg p) bal (y_vl G d inv 6).2.1 (y_vl G d inv 6).2.2, y_offer (y_v1 (y_vl G d inv 6).1 p (y_vl G d inv 6).1.vs v (y_mark ((y_vl G d inv 6).1.reg p) bal (y_vl G d inv 6).2.1 (y_vl G d inv 6).2.2)) p)
def z_version (T : CT) (a v inv bal : Int32) : Int32 × CT := match isP T a with
  | none => (0, T.w_code 1)
  | some p => if v ≤ T.num (T.last p) then (0, (T.w_code 0).w_code 2) else if inv < 0 ∨ 10000000 < inv then (0, (T.w_code 0).w_code 2) else if bal < 0 ∨ 10000000 < bal then (0, (T.w_code 0).w_code 2) else if T.vs = 300 then (0, (T.w_code 0).w_code 3) else y_ver (((T.w_code 0).w_code 0).w_vs (T.vs + 1)) p (T.last p) v inv bal
theorem JI.w_vs {T : CT} (h : JI T) (hv : T.vs + 1 ≤ 300) : JI (T.w_vs (T.vs + 1)) := ⟨h.1.w_vs (Nat.le_succ _) hv, h.2.1, h.2.2⟩
theorem pot_wvs {T : CT} {v : Nat} : pot (T.w_vs v) = pot T := rfl
theorem m_version {l : Launch} {D : gzD} {K : gzK} {M : gzM} {n nc ns : Nat} {M0 : gzM} {S : gS} {L : gL} {T : CT} (hR : RF M0 S L M) (hT : Rel 12 true S T) {xp v inv bal : Int32} (hI : JI T) (hP : pot T < 9000) (k : ∀ S M, RF M0 S L M → Rel 12 true S (z_version T xp v inv bal).2 → K (.inl (some (.int (z_version T xp v inv bal).1))) M n nc ns) : GZ l P1 D F_M_version K 0 [some (.ref 83), some (.int xp), some (.int v), some (.int inv), some (.int bal), none, none, none, none, none, none] [] M n nc ns := by
  refine gz_aload_n gd_M_version_0 rfl rfl (gz_isr.r _) ?_
  refine gz_aload_n gd_M_version_1 rfl rfl (gz_isr.r _) ?_
  refine gz_iload_n gd_M_version_2 rfl rfl ?_
  refine gz_virtual1 gd_M_version_3 hR.1 rfl rfl gs_M_version_3 (Nat.le_of_ble_eq_true rfl) (Nat.le_of_ble_eq_true rfl) ?_
  refine m_isPrecinct hR hT (fun p hp e ht => ?_) (fun ha => ?_)
  ·
    subst e
    have ep := isP_s hp ht
    have hl := hI.1.last p hp
    have hvs := hI.1.vs
    refine gz_if_ne (tgt := 13) gd_M_version_6 (by decide) (fun h6 => ?_) (fun h6 => ?_)
    ·
      refine gz_iconst (v := 0) gd_M_version_13 (by decide) ?_
      refine mt_puti (T := T.w_code 0) gd_M_version_14 gf_M_100 gr_M_version_6_0 hR rfl hT.s_code (fun S M hR hT => ?_)
      refine gz_aload_n gd_M_version_17 rfl rfl (gz_isr.r _) ?_
      refine mt_geti gd_M_version_18 gf_M_100 hR rfl (show _ = (0 : Int32) from hT.code) ?_
      refine gz_if_ne (tgt := 83) gd_M_version_21 (by decide) (fun h21 => ?_) (fun h21 => ?_)
      ·
        exact absurd h21 (by decide)
      ·
        refine gz_aload_n gd_M_version_24 rfl rfl (gz_isr.r _) ?_
        refine gz_iload_n gd_M_version_25 rfl rfl ?_
        refine gz_aload_n gd_M_version_26 rfl rfl (gz_isr.r _) ?_
        refine md_getf gd_M_version_27 gf_M_23 hR rfl ?_
        refine gz_aload_n gd_M_version_30 rfl rfl (gz_isr.r _) ?_
        refine md_getf gd_M_version_31 gf_M_20 hR rfl ?_
        refine gz_iload_n gd_M_version_34 rfl rfl ?_
        refine mt_iaload (a := 87) (i := p) gd_M_version_35 hR rfl rfl (show _ < 40 from (by omega)) (show _ = nI (T.last p) from hT.last p hp) ?_
        refine mt_iaload (a := 88) (i := T.last p) gd_M_version_36 hR rfl rfl (show _ < 301 from (by omega)) (show _ = T.num (T.last p) from hT.num (T.last p) (by omega)) ?_
        refine gz_icmp_le (tgt := 61) gd_M_version_37 (by decide) (fun h37 => ?_) (fun h37 => ?_)
        ·
          refine gz_iconst (v := 2) gd_M_version_61 (by decide) ?_
          refine gz_goto (tgt := 80) gd_M_version_62 (by decide) ?_
          refine mt_puti (T := (T.w_code 0).w_code 2) gd_M_version_80 gf_M_100 gr_M_version_6_0 hR rfl hT.s_code (fun S M hR hT => ?_)
          refine gz_aload_n gd_M_version_83 rfl rfl (gz_isr.r _) ?_
          refine mt_geti gd_M_version_84 gf_M_100 hR rfl (show _ = (2 : Int32) from hT.code) ?_
          refine gz_if_le (tgt := 92) gd_M_version_87 (by decide) (fun h87 => ?_) (fun h87 => ?_)
          ·
            exact absurd h87 (by decide)
          ·
            refine gz_iconst (v := 0) gd_M_version_90 (by decide) ?_
            refine gz_ireturn gd_M_version_91 rfl rfl ?_
            simp only [z_version, ep, if_pos h37] at k
            exact k _ _ hR hT
        ·
          refine gz_iload_n gd_M_version_40 rfl rfl ?_
          refine gz_iconst (v := 0) gd_M_version_41 (by decide) ?_
          refine gz_ldc (v := 10000000) gd_M_version_42 gw_879 ?_
          refine gz_static3 gd_M_version_44 gs_M_version_44 (Nat.le_of_ble_eq_true rfl) (Nat.le_of_ble_eq_true rfl) ?_
          refine m_in (fun ha hb => ?_) (fun ha => ?_)
          ·
            have v1 := not_or.2 ⟨ha, hb⟩
            refine gz_if_eq (tgt := 61) gd_M_version_47 (by decide) (fun h47 => ?_) (fun h47 => ?_)
            ·
              exact absurd h47 (by decide)
            ·
              refine gz_iload gd_M_version_50 rfl ?_
              refine gz_iconst (v := 0) gd_M_version_52 (by decide) ?_
              refine gz_ldc (v := 10000000) gd_M_version_53 gw_879 ?_
              refine gz_static3 gd_M_version_55 gs_M_version_55 (Nat.le_of_ble_eq_true rfl) (Nat.le_of_ble_eq_true rfl) ?_
              refine m_in (fun ha hb => ?_) (fun ha => ?_)
              ·
                have v2 := not_or.2 ⟨ha, hb⟩
                refine gz_if_ne (tgt := 65) gd_M_version_58 (by decide) (fun h58 => ?_) (fun h58 => ?_)
                ·
                  refine gz_aload_n gd_M_version_65 rfl rfl (gz_isr.r _) ?_
                  refine mt_geti gd_M_version_66 gf_M_157 hR rfl (show _ = nI T.vs from hT.vs) ?_
                  refine gz_sipush (v := 300) gd_M_version_69 (by decide) ?_
                  refine gz_icmp_ne (tgt := 79) gd_M_version_72 (by decide) (fun h72 => ?_) (fun h72 => ?_)
                  ·
                    replace h72 := mt (nI_eq (a := T.vs) (b := 300) (by omega) (by omega)).2 h72
                    refine gz_iconst (v := 0) gd_M_version_79 (by decide) ?_
                    refine mt_puti (T := (T.w_code 0).w_code 0) gd_M_version_80 gf_M_100 gr_M_version_6_0 hR rfl hT.s_code (fun S M hR hT => ?_)
                    refine gz_aload_n gd_M_version_83 rfl rfl (gz_isr.r _) ?_
                    refine mt_geti gd_M_version_84 gf_M_100 hR rfl (show _ = (0 : Int32) from hT.code) ?_
                    refine gz_if_le (tgt := 92) gd_M_version_87 (by decide) (fun h87 => ?_) (fun h87 => ?_)
                    ·
                      refine gz_aload_n gd_M_version_92 rfl rfl (gz_isr.r _) ?_
                      refine gz_dup gd_M_version_93 rfl ?_
                      refine mt_geti gd_M_version_94 gf_M_157 hR rfl (show _ = nI T.vs from hT.vs) ?_
                      refine gz_iconst (v := 1) gd_M_version_97 (by decide) ?_
                      refine gq_iadd (z := nI (T.vs + 1)) gd_M_version_98 (nI_add T.vs 1) ?_
                      have hJV : JI (((T.w_code 0).w_code 0).w_vs (T.vs + 1)) := JI.w_vs (JI.code (v := 0) (JI.code (v := 0) hI)) (show T.vs + 1 ≤ 300 by omega)
                      refine mt_puti (T := (((T.w_code 0).w_code 0).w_vs (T.vs + 1))) gd_M_version_99 gf_M_157 gr_M_version_6_5 hR rfl (hT.s_vs rfl) (fun S M hR hT => ?_)
                      refine gz_aload_n gd_M_version_102 rfl rfl (gz_isr.r _) ?_
                      refine md_getf gd_M_version_103 gf_M_20 hR rfl ?_
                      refine gz_iload_n gd_M_version_106 rfl rfl ?_
                      refine mt_iaload (a := 87) (i := p) gd_M_version_107 hR rfl rfl (show _ < 40 from (by omega)) (show _ = nI (T.last p) from hT.last p hp) ?_
                      refine gz_istore gd_M_version_108 (Nat.le_of_ble_eq_true rfl) rfl ?_
                      refine gz_iload_n gd_M_version_110 rfl rfl ?_
                      refine gz_i2l gd_M_version_111 ?_
                      refine gz_lstore gd_M_version_112 (Nat.le_of_ble_eq_true rfl) rfl ?_
                      refine gz_iconst (v := 0) gd_M_version_114 (by decide) ?_
                      refine gz_istore gd_M_version_115 (Nat.le_of_ble_eq_true rfl) trivial ?_
                      refine gz_iconst (v := 0) gd_M_version_117 (by decide) ?_
                      refine gz_istore gd_M_version_118 (Nat.le_of_ble_eq_true rfl) rfl ?_
                      simp only [z_version, ep, if_neg h37, if_neg v1, if_neg v2, if_neg h72] at k
                      exact m_ver120 (G := (((T.w_code 0).w_code 0).w_vs (T.vs + 1))) (d := T.last p) hR hT hp (show T.last p < T.vs + 1 by omega) hJV (by rw [pot_wvs, pot_code, pot_code]; exact hP) k
                    ·
                      exact absurd h87 (by decide)
                  ·
                    replace h72 := (nI_eq (a := T.vs) (b := 300) (by omega) (by omega)).1 h72
                    refine gz_iconst (v := 3) gd_M_version_75 (by decide) ?_
                    refine gz_goto (tgt := 80) gd_M_version_76 (by decide) ?_
                    refine mt_puti (T := (T.w_code 0).w_code 3) gd_M_version_80 gf_M_100 gr_M_version_6_0 hR rfl hT.s_code (fun S M hR hT => ?_)
                    refine gz_aload_n gd_M_version_83 rfl rfl (gz_isr.r _) ?_
                    refine mt_geti gd_M_version_84 gf_M_100 hR rfl (show _ = (3 : Int32) from hT.code) ?_
                    refine gz_if_le (tgt := 92) gd_M_version_87 (by decide) (fun h87 => ?_) (fun h87 => ?_)
                    ·
                      exact absurd h87 (by decide)
                    ·
                      refine gz_iconst (v := 0) gd_M_version_90 (by decide) ?_
                      refine gz_ireturn gd_M_version_91 rfl rfl ?_
                      simp only [z_version, ep, if_neg v1, if_neg v2, if_pos h72, if_neg h37] at k
                      exact k _ _ hR hT
                ·
                  exact absurd h58 (by decide)
              ·
                have v2 := ha
                refine gz_if_ne (tgt := 65) gd_M_version_58 (by decide) (fun h58 => ?_) (fun h58 => ?_)
                ·
                  exact absurd h58 (by decide)
                ·
                  refine gz_iconst (v := 2) gd_M_version_61 (by decide) ?_
                  refine gz_goto (tgt := 80) gd_M_version_62 (by decide) ?_
                  refine mt_puti (T := (T.w_code 0).w_code 2) gd_M_version_80 gf_M_100 gr_M_version_6_0 hR rfl hT.s_code (fun S M hR hT => ?_)
                  refine gz_aload_n gd_M_version_83 rfl rfl (gz_isr.r _) ?_
                  refine mt_geti gd_M_version_84 gf_M_100 hR rfl (show _ = (2 : Int32) from hT.code) ?_
                  refine gz_if_le (tgt := 92) gd_M_version_87 (by decide) (fun h87 => ?_) (fun h87 => ?_)
                  ·
                    exact absurd h87 (by decide)
                  ·
                    refine gz_iconst (v := 0) gd_M_version_90 (by decide) ?_
                    refine gz_ireturn gd_M_version_91 rfl rfl ?_
                    simp only [z_version, ep, if_neg v1, if_pos v2, if_neg h37] at k
                    exact k _ _ hR hT
          ·
            have v1 := ha
            refine gz_if_eq (tgt := 61) gd_M_version_47 (by decide) (fun h47 => ?_) (fun h47 => ?_)
            ·
              refine gz_iconst (v := 2) gd_M_version_61 (by decide) ?_
              refine gz_goto (tgt := 80) gd_M_version_62 (by decide) ?_
              refine mt_puti (T := (T.w_code 0).w_code 2) gd_M_version_80 gf_M_100 gr_M_version_6_0 hR rfl hT.s_code (fun S M hR hT => ?_)
              refine gz_aload_n gd_M_version_83 rfl rfl (gz_isr.r _) ?_
              refine mt_geti gd_M_version_84 gf_M_100 hR rfl (show _ = (2 : Int32) from hT.code) ?_
              refine gz_if_le (tgt := 92) gd_M_version_87 (by decide) (fun h87 => ?_) (fun h87 => ?_)
              ·
                exact absurd h87 (by decide)
              ·
                refine gz_iconst (v := 0) gd_M_version_90 (by decide) ?_
                refine gz_ireturn gd_M_version_91 rfl rfl ?_
                simp only [z_version, ep, if_pos v1, if_neg h37] at k
                exact k _ _ hR hT
            ·
              exact absurd h47 (by decide)
    ·
      exact absurd h6 (by decide)
  ·
    have ep := isP_n ha
    refine gz_if_ne (tgt := 13) gd_M_version_6 (by decide) (fun h6 => ?_) (fun h6 => ?_)
    ·
      exact absurd h6 (by decide)
    ·
      refine gz_iconst (v := 1) gd_M_version_9 (by decide) ?_
      refine gz_goto (tgt := 14) gd_M_version_10 (by decide) ?_
      refine mt_puti (T := T.w_code 1) gd_M_version_14 gf_M_100 gr_M_version_6_0 hR rfl hT.s_code (fun S M hR hT => ?_)
      refine gz_aload_n gd_M_version_17 rfl rfl (gz_isr.r _) ?_
      refine mt_geti gd_M_version_18 gf_M_100 hR rfl (show _ = (1 : Int32) from hT.code) ?_
      refine gz_if_ne (tgt := 83) gd_M_version_21 (by decide) (fun h21 => ?_) (fun h21 => ?_)
      ·
        refine gz_aload_n gd_M_version_83 rfl rfl (gz_isr.r _) ?_
        refine mt_geti gd_M_version_84 gf_M_100 hR rfl (show _ = (1 : Int32) from hT.code) ?_
        refine gz_if_le (tgt := 92) gd_M_version_87 (by decide) (fun h87 => ?_) (fun h87 => ?_)
        ·
          exact absurd h87 (by decide)
        ·
          refine gz_iconst (v := 0) gd_M_version_90 (by decide) ?_
          refine gz_ireturn gd_M_version_91 rfl rfl ?_
          simp only [z_version, ep] at k
          exact k _ _ hR hT
      ·
        exact absurd h21 (by decide)
