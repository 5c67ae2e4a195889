/-! The reference: letter and office. Printed by wip/whole/m12.py -/
theorem i5_ix {x : Int32} (h0 : ¬ x < 0) (h1 : ¬ 4 < x) : ∃ p, p < 5 ∧ x = nI p := in_ix (n := 4) (by decide) rfl h0 h1
theorem i8_ix {x : Int32} (h0 : ¬ x < 0) (h1 : ¬ 7 < x) : ∃ p, p < 8 ∧ x = nI p := in_ix (n := 7) (by decide) rfl h0 h1
def y_let (T : CT) (y : Nat × Int32 × Nat × Nat × Nat) (w : Nat) : Int32 := if w = 0 then nI y.1 else if w = 1 then y.2.1 else if w = 2 then nI y.2.2.1 else if w = 3 then nI y.2.2.2.1 else T.num y.2.2.2.2
def z_letter (T : CT) (a b : Int32) : Int32 × CT := match inR a T.post.length with
  | none => (0, T.w_code 1)
  | some i => match inR b 5 with
    | none => (0, T.w_code 2)
    | some w => match T.post[i]? with
      | none => (0, T)
      | some y => (y_let T y w, T.w_code 0)
def y_sc (T : CT) (o : Nat) : Nat := sN 40 (fun p => if T.shown o p = 0 then 0 else 1)
def y_off (T : CT) (o w : Nat) : Int32 := if w = 0 then oI (T.par o) else if w = 1 then T.ep o else if w = 2 then bI (T.up o) else if w = 3 then nI (y_kids T o) else if w = 4 then nI (y_waits T o) else if w = 5 then nI (T.line o).length else if w = 6 then nI (T.tk o) else nI (y_sc T o)
def z_office (T : CT) (a b : Int32) : Int32 × CT := match inR a 12 with
  | none => (0, T.w_code 1)
  | some o => match inR b 8 with
    | none => (0, T.w_code 2)
    | some w => (y_off T o w, T.w_code 0)
theorem kids_code {T : CT} {o : Nat} {v : Int32} : y_kids (T.w_code v) o = y_kids T o := rfl
theorem m_letter {l : Launch} {D : gzD} {K : gzK} {M : gzM} {n nc ns : Nat} {M0 : gzM} {S : gS} {L : gL} {T : CT} (hR : RF M0 S L M) (hT : Rel 12 true S T) {xi xw : Int32} (hB : Bd T) (k : ∀ S M, RF M0 S L M → Rel 12 true S (z_letter T xi xw).2 → K (.inl (some (.int (z_letter T xi xw).1))) M n nc ns) : GZ l P1 D F_M_letter K 0 [some (.ref 83), some (.int xi), some (.int xw)] [] M n nc ns := by
  have hN := hB.postN
  refine gz_aload_n gd_M_letter_0 rfl rfl (gz_isr.r _) ?_
  refine gz_aload_n gd_M_letter_1 rfl rfl (gz_isr.r _) ?_
  refine gz_iload_n gd_M_letter_2 rfl rfl ?_
  refine gz_virtual1 gd_M_letter_3 hR.1 rfl rfl gs_M_letter_3 (Nat.le_of_ble_eq_true rfl) (Nat.le_of_ble_eq_true rfl) ?_
  refine m_isLetter hR hT hN (fun i hi e => ?_) (fun ha => ?_)
  ·
    subst e
    have ei := inR_s hi (show T.post.length < 2 ^ 31 by omega)
    refine gz_if_ne (tgt := 13) gd_M_letter_6 (by decide) (fun h6 => ?_) (fun h6 => ?_)
    ·
      refine gz_iload_n gd_M_letter_13 rfl rfl ?_
      refine gz_iconst (v := 0) gd_M_letter_14 (by decide) ?_
      refine gz_iconst (v := 4) gd_M_letter_15 (by decide) ?_
      refine gz_static3 gd_M_letter_16 gs_M_letter_16 (Nat.le_of_ble_eq_true rfl) (Nat.le_of_ble_eq_true rfl) ?_
      refine m_in (fun ha hb => ?_) (fun ha => ?_)
      ·
        obtain ⟨w, hw, rfl⟩ := i5_ix ha hb
        have ew := inR_s hw (show 5 < 2 ^ 31 by decide)
        refine gz_if_eq (tgt := 26) gd_M_letter_19 (by decide) (fun h19 => ?_) (fun h19 => ?_)
        ·
          exact absurd h19 (by decide)
        ·
          refine gz_iconst (v := 0) gd_M_letter_22 (by decide) ?_
          refine gz_goto (tgt := 27) gd_M_letter_23 (by decide) ?_
          refine mt_puti (T := T.w_code 0) gd_M_letter_27 gf_M_100 gr_M_letter_6_0 hR rfl hT.s_code (fun S M hR hT => ?_)
          refine gz_aload_n gd_M_letter_30 rfl rfl (gz_isr.r _) ?_
          refine mt_geti gd_M_letter_31 gf_M_100 hR rfl (show _ = (0 : Int32) from hT.code) ?_
          refine gz_if_le (tgt := 39) gd_M_letter_34 (by decide) (fun h34 => ?_) (fun h34 => ?_)
          ·
            refine gz_iload_n gd_M_letter_39 rfl rfl ?_
            obtain ⟨y, hy⟩ : ∃ y, T.post[i]? = some y := ⟨T.post[i]'hi, List.getElem?_eq_getElem hi⟩
            obtain ⟨q1, q2, q3, q4, q5⟩ := hT.post rfl i y (by omega) hy
            have hyv := (hB.post y (List.mem_of_getElem? hy)).2.2.2.2
            have hvs := hB.vs
            rcases (show w = 0 ∨ w = 1 ∨ w = 2 ∨ w = 3 ∨ w = 4 by omega) with rfl | rfl | rfl | rfl | rfl
            ·
              refine gz_tableIn (tgt := 72) gd_M_letter_40 (by decide) (by decide) (show _ = some _ from rfl) (by decide) ?_
              refine gz_aload_n gd_M_letter_72 rfl rfl (gz_isr.r _) ?_
              refine md_getf gd_M_letter_73 gf_M_75 hR rfl ?_
              refine gz_iload_n gd_M_letter_76 rfl rfl ?_
              refine mt_iaload (a := 105) (i := i) gd_M_letter_77 hR rfl rfl (show _ < 501 from (by omega)) q1 ?_
              refine gz_ireturn gd_M_letter_78 rfl rfl ?_
              simp only [z_letter, ei, ew, hy] at k
              exact k _ _ hR hT
            ·
              refine gz_tableIn (tgt := 79) gd_M_letter_40 (by decide) (by decide) (show _ = some _ from rfl) (by decide) ?_
              refine gz_aload_n gd_M_letter_79 rfl rfl (gz_isr.r _) ?_
              refine md_getf gd_M_letter_80 gf_M_78 hR rfl ?_
              refine gz_iload_n gd_M_letter_83 rfl rfl ?_
              refine mt_iaload (a := 106) (i := i) gd_M_letter_84 hR rfl rfl (show _ < 501 from (by omega)) q2 ?_
              refine gz_ireturn gd_M_letter_85 rfl rfl ?_
              simp only [z_letter, ei, ew, hy] at k
              exact k _ _ hR hT
            ·
              refine gz_tableIn (tgt := 86) gd_M_letter_40 (by decide) (by decide) (show _ = some _ from rfl) (by decide) ?_
              refine gz_aload_n gd_M_letter_86 rfl rfl (gz_isr.r _) ?_
              refine md_getf gd_M_letter_87 gf_M_81 hR rfl ?_
              refine gz_iload_n gd_M_letter_90 rfl rfl ?_
              refine mt_iaload (a := 107) (i := i) gd_M_letter_91 hR rfl rfl (show _ < 501 from (by omega)) q3 ?_
              refine gz_ireturn gd_M_letter_92 rfl rfl ?_
              simp only [z_letter, ei, ew, hy] at k
              exact k _ _ hR hT
            ·
              refine gz_tableIn (tgt := 93) gd_M_letter_40 (by decide) (by decide) (show _ = some _ from rfl) (by decide) ?_
              refine gz_aload_n gd_M_letter_93 rfl rfl (gz_isr.r _) ?_
              refine md_getf gd_M_letter_94 gf_M_84 hR rfl ?_
              refine gz_iload_n gd_M_letter_97 rfl rfl ?_
              refine mt_iaload (a := 108) (i := i) gd_M_letter_98 hR rfl rfl (show _ < 501 from (by omega)) q4 ?_
              refine gz_ireturn gd_M_letter_99 rfl rfl ?_
              simp only [z_letter, ei, ew, hy] at k
              exact k _ _ hR hT
            ·
              refine gz_tableOut (tgt := 100) gd_M_letter_40 (by decide) (by decide) ?_
              refine gz_aload_n gd_M_letter_100 rfl rfl (gz_isr.r _) ?_
              refine md_getf gd_M_letter_101 gf_M_23 hR rfl ?_
              refine gz_aload_n gd_M_letter_104 rfl rfl (gz_isr.r _) ?_
              refine md_getf gd_M_letter_105 gf_M_87 hR rfl ?_
              refine gz_iload_n gd_M_letter_108 rfl rfl ?_
              refine mt_iaload (a := 109) (i := i) gd_M_letter_109 hR rfl rfl (show _ < 501 from (by omega)) q5 ?_
              refine mt_iaload (a := 88) (i := y.2.2.2.2) gd_M_letter_110 hR rfl rfl (show _ < 301 from (by omega)) (show _ = T.num y.2.2.2.2 from (hT.num y.2.2.2.2 (by omega))) ?_
              refine gz_ireturn gd_M_letter_111 rfl rfl ?_
              simp only [z_letter, ei, ew, hy] at k
              exact k _ _ hR hT
          ·
            exact absurd h34 (by decide)
      ·
        have ew := inR_n (n := 4) (by decide) rfl ha
        refine gz_if_eq (tgt := 26) gd_M_letter_19 (by decide) (fun h19 => ?_) (fun h19 => ?_)
        ·
          refine gz_iconst (v := 2) gd_M_letter_26 (by decide) ?_
          refine mt_puti (T := T.w_code 2) gd_M_letter_27 gf_M_100 gr_M_letter_6_0 hR rfl hT.s_code (fun S M hR hT => ?_)
          refine gz_aload_n gd_M_letter_30 rfl rfl (gz_isr.r _) ?_
          refine mt_geti gd_M_letter_31 gf_M_100 hR rfl (show _ = (2 : Int32) from hT.code) ?_
          refine gz_if_le (tgt := 39) gd_M_letter_34 (by decide) (fun h34 => ?_) (fun h34 => ?_)
          ·
            exact absurd h34 (by decide)
          ·
            refine gz_iconst (v := 0) gd_M_letter_37 (by decide) ?_
            refine gz_ireturn gd_M_letter_38 rfl rfl ?_
            simp only [z_letter, ei, ew] at k
            exact k _ _ hR hT
        ·
          exact absurd h19 (by decide)
    ·
      exact absurd h6 (by decide)
  ·
    have ei := inR_none (show T.post.length < 2 ^ 31 by omega) ha
    refine gz_if_ne (tgt := 13) gd_M_letter_6 (by decide) (fun h6 => ?_) (fun h6 => ?_)
    ·
      exact absurd h6 (by decide)
    ·
      refine gz_iconst (v := 1) gd_M_letter_9 (by decide) ?_
      refine gz_goto (tgt := 27) gd_M_letter_10 (by decide) ?_
      refine mt_puti (T := T.w_code 1) gd_M_letter_27 gf_M_100 gr_M_letter_6_0 hR rfl hT.s_code (fun S M hR hT => ?_)
      refine gz_aload_n gd_M_letter_30 rfl rfl (gz_isr.r _) ?_
      refine mt_geti gd_M_letter_31 gf_M_100 hR rfl (show _ = (1 : Int32) from hT.code) ?_
      refine gz_if_le (tgt := 39) gd_M_letter_34 (by decide) (fun h34 => ?_) (fun h34 => ?_)
      ·
        exact absurd h34 (by decide)
      ·
        refine gz_iconst (v := 0) gd_M_letter_37 (by decide) ?_
        refine gz_ireturn gd_M_letter_38 rfl rfl ?_
        simp only [z_letter, ei] at k
        exact k _ _ hR hT

theorem m_office {l : Launch} {D : gzD} {K : gzK} {M : gzM} {n nc ns : Nat} {M0 : gzM} {S : gS} {L : gL} {T : CT} (hR : RF M0 S L M) (hT : Rel 12 true S T) {xo xw : Int32} (hB : Bd T) (k : ∀ S M, RF M0 S L M → Rel 12 true S (z_office T xo xw).2 → K (.inl (some (.int (z_office T xo xw).1))) M n nc ns) : GZ l P1 D F_M_office K 0 [some (.ref 83), some (.int xo), some (.int xw), none, none] [] M n nc ns := by
  refine gz_aload_n gd_M_office_0 rfl rfl (gz_isr.r _) ?_
  refine gz_iload_n gd_M_office_1 rfl rfl ?_
  refine gz_static1 gd_M_office_2 gs_M_office_2 (Nat.le_of_ble_eq_true rfl) (Nat.le_of_ble_eq_true rfl) ?_
  refine m_isOffice (fun ha hb => ?_) (fun ha => ?_)
  ·
    obtain ⟨o, ho, rfl⟩ := of_ix ha hb
    have eo := inR_s ho (show 12 < 2 ^ 31 by decide)
    refine gz_if_ne (tgt := 12) gd_M_office_5 (by decide) (fun h5 => ?_) (fun h5 => ?_)
    ·
      refine gz_iload_n gd_M_office_12 rfl rfl ?_
      refine gz_iconst (v := 0) gd_M_office_13 (by decide) ?_
      refine gz_bipush (v := 7) gd_M_office_14 (by decide) ?_
      refine gz_static3 gd_M_office_16 gs_M_office_16 (Nat.le_of_ble_eq_true rfl) (Nat.le_of_ble_eq_true rfl) ?_
      refine m_in (fun ha hb => ?_) (fun ha => ?_)
      ·
        obtain ⟨w, hw, rfl⟩ := i8_ix ha hb
        have ew := inR_s hw (show 8 < 2 ^ 31 by decide)
        refine gz_if_eq (tgt := 26) gd_M_office_19 (by decide) (fun h19 => ?_) (fun h19 => ?_)
        ·
          exact absurd h19 (by decide)
        ·
          refine gz_iconst (v := 0) gd_M_office_22 (by decide) ?_
          refine gz_goto (tgt := 27) gd_M_office_23 (by decide) ?_
          refine mt_puti (T := T.w_code 0) gd_M_office_27 gf_M_100 gr_M_office_6_0 hR rfl hT.s_code (fun S M hR hT => ?_)
          refine gz_aload_n gd_M_office_30 rfl rfl (gz_isr.r _) ?_
          refine mt_geti gd_M_office_31 gf_M_100 hR rfl (show _ = (0 : Int32) from hT.code) ?_
          refine gz_if_le (tgt := 39) gd_M_office_34 (by decide) (fun h34 => ?_) (fun h34 => ?_)
          ·
            refine gz_iconst (v := 0) gd_M_office_39 (by decide) ?_
            refine gz_istore_n gd_M_office_40 rfl (Nat.le_of_ble_eq_true rfl) rfl ?_
            refine gz_iconst (v := 0) gd_M_office_41 (by decide) ?_
            refine gz_istore gd_M_office_42 (Nat.le_of_ble_eq_true rfl) rfl ?_
            have loop : ∀ (j i : Nat), i + j = 40 → ∀ a, a = sN i (fun p => if T.shown o p = 0 then 0 else 1) → GZ l P1 D F_M_office K 44 [some (.ref 83), some (.int (nI o)), some (.int (nI w)), some (.int (nI a)), some (.int (nI i))] [] M n nc ns := by
              intro j
              induction j with
              | zero =>
                intro i hi a hav
                refine gz_iload gd_M_office_44 rfl ?_
                refine gz_bipush (v := 40) gd_M_office_46 (by decide) ?_
                refine gz_icmp_ge (tgt := 80) gd_M_office_48 (by decide) (fun h48 => ?_) (fun h48 => ?_)
                ·
                  replace h48 := (nI_leI (a := 40) (b := i) (by omega) (by omega)).1 h48
                  refine gz_iload_n gd_M_office_80 rfl rfl ?_
                  have e40 : i = 40 := by omega
                  rw [e40] at hav
                  simp only [z_office, eo, ew] at k
                  rcases (show w = 0 ∨ w = 1 ∨ w = 2 ∨ w = 3 ∨ w = 4 ∨ w = 5 ∨ w = 6 ∨ w = 7 by omega) with rfl | rfl | rfl | rfl | rfl | rfl | rfl | rfl
                  ·
                    refine gz_tableIn (tgt := 124) gd_M_office_81 (by decide) (by decide) (show _ = some _ from rfl) (by decide) ?_
                    refine gz_aload_n gd_M_office_124 rfl rfl (gz_isr.r _) ?_
                    refine md_getf gd_M_office_125 gf_M_38 hR rfl ?_
                    refine gz_iload_n gd_M_office_128 rfl rfl ?_
                    refine mt_iaload (a := 93) (i := o) gd_M_office_129 hR rfl rfl (show _ < 12 from (by omega)) (show _ = oI (T.par o) from (hT.par o (by omega))) ?_
                    refine gz_ireturn gd_M_office_130 rfl rfl ?_
                    exact k _ _ hR hT
                  ·
                    refine gz_tableIn (tgt := 131) gd_M_office_81 (by decide) (by decide) (show _ = some _ from rfl) (by decide) ?_
                    refine gz_aload_n gd_M_office_131 rfl rfl (gz_isr.r _) ?_
                    refine md_getf gd_M_office_132 gf_M_41 hR rfl ?_
                    refine gz_iload_n gd_M_office_135 rfl rfl ?_
                    refine mt_iaload (a := 94) (i := o) gd_M_office_136 hR rfl rfl (show _ < 12 from (by omega)) (show _ = T.ep o from (hT.ep o (by omega))) ?_
                    refine gz_ireturn gd_M_office_137 rfl rfl ?_
                    exact k _ _ hR hT
                  ·
                    refine gz_tableIn (tgt := 138) gd_M_office_81 (by decide) (by decide) (show _ = some _ from rfl) (by decide) ?_
                    refine gz_aload_n gd_M_office_138 rfl rfl (gz_isr.r _) ?_
                    refine md_getf gd_M_office_139 gf_M_35 hR rfl ?_
                    refine gz_iload_n gd_M_office_142 rfl rfl ?_
                    refine mt_zaload (a := 92) (i := o) gd_M_office_143 hR rfl rfl (show _ < 12 from (by omega)) (show _ = bI (T.up o) from (hT.up o (by omega))) ?_
                    refine gz_if_eq (tgt := 151) gd_M_office_144 (by decide) (fun h144 => ?_) (fun h144 => ?_)
                    ·
                      replace h144 := bI_0.1 h144
                      refine gz_iconst (v := 0) gd_M_office_151 (by decide) ?_
                      refine gz_ireturn gd_M_office_152 rfl rfl ?_
                      have e2 : y_off T o 2 = 0 := by show bI (T.up o) = _; rw [h144]; rfl
                      rw [e2] at k
                      exact k _ _ hR hT
                    ·
                      replace h144 := bI_n.1 h144
                      refine gz_iconst (v := 1) gd_M_office_147 (by decide) ?_
                      refine gz_goto (tgt := 152) gd_M_office_148 (by decide) ?_
                      refine gz_ireturn gd_M_office_152 rfl rfl ?_
                      have e2 : y_off T o 2 = 1 := by show bI (T.up o) = _; rw [h144]; rfl
                      rw [e2] at k
                      exact k _ _ hR hT
                  ·
                    refine gz_tableIn (tgt := 153) gd_M_office_81 (by decide) (by decide) (show _ = some _ from rfl) (by decide) ?_
                    refine gz_aload_n gd_M_office_153 rfl rfl (gz_isr.r _) ?_
                    refine gz_iload_n gd_M_office_154 rfl rfl ?_
                    refine gz_virtual1 gd_M_office_155 hR.1 rfl rfl gs_M_office_155 (Nat.le_of_ble_eq_true rfl) (Nat.le_of_ble_eq_true rfl) ?_
                    refine m_childrenOf (T := T.w_code 0) (o := o) hR hT ho hB.w_code ?_
                    rw [kids_code]
                    refine gz_ireturn gd_M_office_158 rfl rfl ?_
                    exact k _ _ hR hT
                  ·
                    refine gz_tableIn (tgt := 159) gd_M_office_81 (by decide) (by decide) (show _ = some _ from rfl) (by decide) ?_
                    refine gz_aload_n gd_M_office_159 rfl rfl (gz_isr.r _) ?_
                    refine gz_iload_n gd_M_office_160 rfl rfl ?_
                    refine gz_virtual1 gd_M_office_161 hR.1 rfl rfl gs_M_office_161 (Nat.le_of_ble_eq_true rfl) (Nat.le_of_ble_eq_true rfl) ?_
                    refine m_waitsAt (T := T.w_code 0) (o := o) hR hT ho hB.w_code ?_
                    rw [waits_code]
                    refine gz_ireturn gd_M_office_164 rfl rfl ?_
                    exact k _ _ hR hT
                  ·
                    refine gz_tableIn (tgt := 165) gd_M_office_81 (by decide) (by decide) (show _ = some _ from rfl) (by decide) ?_
                    refine gz_aload_n gd_M_office_165 rfl rfl (gz_isr.r _) ?_
                    refine md_getf gd_M_office_166 gf_M_53 hR rfl ?_
                    refine gz_iload_n gd_M_office_169 rfl rfl ?_
                    refine mt_iaload (a := 98) (i := o) gd_M_office_170 hR rfl rfl (show _ < 12 from (by omega)) (show _ = nI ((T.line o).length) from (hT.lineN o (by omega))) ?_
                    refine gz_ireturn gd_M_office_171 rfl rfl ?_
                    exact k _ _ hR hT
                  ·
                    refine gz_tableIn (tgt := 172) gd_M_office_81 (by decide) (by decide) (show _ = some _ from rfl) (by decide) ?_
                    refine gz_aload_n gd_M_office_172 rfl rfl (gz_isr.r _) ?_
                    refine md_getf gd_M_office_173 gf_M_63 hR rfl ?_
                    refine gz_iload_n gd_M_office_176 rfl rfl ?_
                    refine mt_iaload (a := 101) (i := o) gd_M_office_177 hR rfl rfl (show _ < 12 from (by omega)) (show _ = nI (T.tk o) from (hT.tk o (by omega))) ?_
                    refine gz_ireturn gd_M_office_178 rfl rfl ?_
                    exact k _ _ hR hT
                  ·
                    refine gz_tableOut (tgt := 179) gd_M_office_81 (by decide) (by decide) ?_
                    refine gz_iload_n gd_M_office_179 rfl rfl ?_
                    refine gz_ireturn gd_M_office_180 rfl rfl ?_
                    rw [hav]
                    exact k _ _ hR hT
                ·
                  replace h48 := mt (nI_leI (a := 40) (b := i) (by omega) (by omega)).2 h48
                  omega
              | succ j ih =>
                intro i hi a hav
                refine gz_iload gd_M_office_44 rfl ?_
                refine gz_bipush (v := 40) gd_M_office_46 (by decide) ?_
                refine gz_icmp_ge (tgt := 80) gd_M_office_48 (by decide) (fun h48 => ?_) (fun h48 => ?_)
                ·
                  replace h48 := (nI_leI (a := 40) (b := i) (by omega) (by omega)).1 h48
                  omega
                ·
                  replace h48 := mt (nI_leI (a := 40) (b := i) (by omega) (by omega)).2 h48
                  refine gz_iload_n gd_M_office_51 rfl rfl ?_
                  refine gz_aload_n gd_M_office_52 rfl rfl (gz_isr.r _) ?_
                  refine md_getf gd_M_office_53 gf_M_44 hR rfl ?_
                  refine gz_bipush (v := 40) gd_M_office_56 (by decide) ?_
                  refine gz_iload_n gd_M_office_58 rfl rfl ?_
                  refine gq_imul (z := nI (40 * o)) gd_M_office_59 (pk_mul 40 o) ?_
                  refine gz_iload gd_M_office_60 rfl ?_
                  refine gq_iadd (z := nI (40 * o + i)) gd_M_office_62 (nI_add (40 * o) i) ?_
                  refine mt_iaload (a := 95) (i := 40 * o + i) gd_M_office_63 hR rfl rfl (show _ < 480 from (by omega)) (show _ = nI (T.shown o i) from (hT.shown o i (by omega) (by omega))) ?_
                  refine gz_if_le (tgt := 71) gd_M_office_64 (by decide) (fun h64 => ?_) (fun h64 => ?_)
                  ·
                    replace h64 := (nI_le0 (by have := hB.shown o i ho (by omega); have := hB.vs; omega)).1 h64
                    refine gz_iconst (v := 0) gd_M_office_71 (by decide) ?_
                    refine gq_iadd (z := nI (a + 0)) gd_M_office_72 (nI_add a 0) ?_
                    refine gz_istore_n gd_M_office_73 rfl (Nat.le_of_ble_eq_true rfl) rfl ?_
                    refine gz_iinc (v := nI (i + 1)) gd_M_office_74 rfl (nI_1 i) (Nat.le_of_ble_eq_true rfl) rfl ?_
                    refine gz_goto (tgt := 44) gd_M_office_77 (by decide) ?_
                    exact ih (i + 1) (by omega) _ (by rw [hav]; show _ = sN i (fun p => if T.shown o p = 0 then 0 else 1) + (if T.shown o i = 0 then 0 else 1); rw [if_pos h64])
                  ·
                    replace h64 := mt (nI_le0 (by have := hB.shown o i ho (by omega); have := hB.vs; omega)).2 h64
                    refine gz_iconst (v := 1) gd_M_office_67 (by decide) ?_
                    refine gz_goto (tgt := 72) gd_M_office_68 (by decide) ?_
                    refine gq_iadd (z := nI (a + 1)) gd_M_office_72 (nI_add a 1) ?_
                    refine gz_istore_n gd_M_office_73 rfl (Nat.le_of_ble_eq_true rfl) rfl ?_
                    refine gz_iinc (v := nI (i + 1)) gd_M_office_74 rfl (nI_1 i) (Nat.le_of_ble_eq_true rfl) rfl ?_
                    refine gz_goto (tgt := 44) gd_M_office_77 (by decide) ?_
                    exact ih (i + 1) (by omega) _ (by rw [hav]; show _ = sN i (fun p => if T.shown o p = 0 then 0 else 1) + (if T.shown o i = 0 then 0 else 1); rw [if_neg h64])
            exact loop 40 0 (by omega) 0 rfl
          ·
            exact absurd h34 (by decide)
      ·
        have ew := inR_n (n := 7) (by decide) rfl ha
        refine gz_if_eq (tgt := 26) gd_M_office_19 (by decide) (fun h19 => ?_) (fun h19 => ?_)
        ·
          refine gz_iconst (v := 2) gd_M_office_26 (by decide) ?_
          refine mt_puti (T := T.w_code 2) gd_M_office_27 gf_M_100 gr_M_office_6_0 hR rfl hT.s_code (fun S M hR hT => ?_)
          refine gz_aload_n gd_M_office_30 rfl rfl (gz_isr.r _) ?_
          refine mt_geti gd_M_office_31 gf_M_100 hR rfl (show _ = (2 : Int32) from hT.code) ?_
          refine gz_if_le (tgt := 39) gd_M_office_34 (by decide) (fun h34 => ?_) (fun h34 => ?_)
          ·
            exact absurd h34 (by decide)
          ·
            refine gz_iconst (v := 0) gd_M_office_37 (by decide) ?_
            refine gz_ireturn gd_M_office_38 rfl rfl ?_
            simp only [z_office, eo, ew] at k
            exact k _ _ hR hT
        ·
          exact absurd h19 (by decide)
    ·
      exact absurd h5 (by decide)
  ·
    have eo := inR_n (n := 11) (by decide) rfl ha
    refine gz_if_ne (tgt := 12) gd_M_office_5 (by decide) (fun h5 => ?_) (fun h5 => ?_)
    ·
      exact absurd h5 (by decide)
    ·
      refine gz_iconst (v := 1) gd_M_office_8 (by decide) ?_
      refine gz_goto (tgt := 27) gd_M_office_9 (by decide) ?_
      refine mt_puti (T := T.w_code 1) gd_M_office_27 gf_M_100 gr_M_office_6_0 hR rfl hT.s_code (fun S M hR hT => ?_)
      refine gz_aload_n gd_M_office_30 rfl rfl (gz_isr.r _) ?_
      refine mt_geti gd_M_office_31 gf_M_100 hR rfl (show _ = (1 : Int32) from hT.code) ?_
      refine gz_if_le (tgt := 39) gd_M_office_34 (by decide) (fun h34 => ?_) (fun h34 => ?_)
      ·
        exact absurd h34 (by decide)
      ·
        refine gz_iconst (v := 0) gd_M_office_37 (by decide) ?_
        refine gz_ireturn gd_M_office_38 rfl rfl ?_
        simp only [z_office, eo] at k
        exact k _ _ hR hT
