/-! The reference: seats, its middle loop. Printed by wip/whole/m20.py -/
def y_sB (xn : Int32) (al : Int64) (S : gS) (L : gL) : Nat → gS × gL × Int32
  | 0 => (S, L, xn)
  | i + 1 => (gs_set (y_sB xn al S L i).1 112 i (xn.toInt64 * (y_sB xn al S L i).2.1 110 i / al).toInt32, gl_set (y_sB xn al S L i).2.1 111 i (xn.toInt64 * (y_sB xn al S L i).2.1 110 i - xn.toInt64 * (y_sB xn al S L i).2.1 110 i / al * al), (y_sB xn al S L i).2.2 - (xn.toInt64 * (y_sB xn al S L i).2.1 110 i / al).toInt32)
theorem m_seats119 {l : Launch} {D : gzD} {K : gzK} {M : gzM} {n nc ns : Nat} {M0 : gzM} {S : gS} {L : gL} {T : CT} (hR : RF M0 S L M) (hT : Rel 12 true S T) {xo xn : Int32} {g : Nat} {al : Int64} (hg : g < 6) {Y : gS × gL × Int32} (hY : y_sB xn al S L 6 = Y) (hal : ¬ al = 0) (k : ∀ S L M, RF M0 S L M → Rel 12 true S T → S 112 g = (y_sC 2 (y_left Y.2.2) Y.1 Y.2.1).1 112 g → K (.inl (some (.int (S 112 g)))) M n nc ns) : GZ l P1 D F_M_seats K 119 [some (.ref 83), some (.int xo), some (.int xn), some (.int 2), some (.int (nI g)), some (.long al), none, some (.int (y_sB xn al S L 0).2.2), some (.int (nI 0))] [] M n nc ns := by
  have loop : ∀ (j i : Nat), i + j = 6 → ∀ M, RF M0 (y_sB xn al S L i).1 (y_sB xn al S L i).2.1 M → Rel 12 true (y_sB xn al S L i).1 T → GZ l P1 D F_M_seats K 119 [some (.ref 83), some (.int xo), some (.int xn), some (.int 2), some (.int (nI g)), some (.long al), none, some (.int (y_sB xn al S L i).2.2), some (.int (nI i))] [] M n nc ns := by
    intro j
    induction j with
    | zero =>
      intro i hi M hR hT
      refine gz_iload gd_M_seats_119 rfl ?_
      refine gz_bipush (v := 6) gd_M_seats_121 (by decide) ?_
      refine gz_icmp_ge (tgt := 190) gd_M_seats_123 (by decide) (fun h123 => ?_) (fun h123 => ?_)
      ·
        replace h123 := (nI_leI (a := 6) (b := i) (by omega) (by omega)).1 h123
        have e6 : i = 6 := by omega
        rw [e6, hY] at hR hT ⊢
        exact m_seatsX hg hR hT k
      ·
        replace h123 := mt (nI_leI (a := 6) (b := i) (by omega) (by omega)).2 h123
        omega
    | succ j ih =>
      intro i hi M hR hT
      refine gz_iload gd_M_seats_119 rfl ?_
      refine gz_bipush (v := 6) gd_M_seats_121 (by decide) ?_
      refine gz_icmp_ge (tgt := 190) gd_M_seats_123 (by decide) (fun h123 => ?_) (fun h123 => ?_)
      ·
        replace h123 := (nI_leI (a := 6) (b := i) (by omega) (by omega)).1 h123
        omega
      ·
        replace h123 := mt (nI_leI (a := 6) (b := i) (by omega) (by omega)).2 h123
        refine gz_iload_n gd_M_seats_126 rfl rfl ?_
        refine gz_iconst (v := 2) gd_M_seats_127 (by decide) ?_
        refine gz_icmp_ne (tgt := 190) gd_M_seats_128 (by decide) (fun h128 => ?_) (fun h128 => ?_)
        ·
          exact absurd h128 (by decide)
        ·
          refine gz_aload_n gd_M_seats_131 rfl rfl (gz_isr.r _) ?_
          refine md_getf gd_M_seats_132 gf_M_97 hR rfl ?_
          refine gz_iload gd_M_seats_135 rfl ?_
          refine gz_iload_n gd_M_seats_137 rfl rfl ?_
          refine gz_i2l gd_M_seats_138 ?_
          refine gz_aload_n gd_M_seats_139 rfl rfl (gz_isr.r _) ?_
          refine md_getf gd_M_seats_140 gf_M_90 hR rfl ?_
          refine gz_iload gd_M_seats_143 rfl ?_
          refine md_laload (a := 110) (i := i) gd_M_seats_145 hR (by decide) rfl (by omega) ?_
          refine gz_lmul gd_M_seats_146 ?_
          refine gz_lload gd_M_seats_147 rfl ?_
          refine gz_ldiv gd_M_seats_149 (hal) ?_
          refine gz_l2i gd_M_seats_150 ?_
          refine md_iastore (a := 112) (i := i) gd_M_seats_151 hR rfl rfl rfl (show _ < 6 from (by omega)) (fun M hR => ?_)
          refine gz_aload_n gd_M_seats_152 rfl rfl (gz_isr.r _) ?_
          refine md_getf gd_M_seats_153 gf_M_94 hR rfl ?_
          refine gz_iload gd_M_seats_156 rfl ?_
          refine gz_iload_n gd_M_seats_158 rfl rfl ?_
          refine gz_i2l gd_M_seats_159 ?_
          refine gz_aload_n gd_M_seats_160 rfl rfl (gz_isr.r _) ?_
          refine md_getf gd_M_seats_161 gf_M_90 hR rfl ?_
          refine gz_iload gd_M_seats_164 rfl ?_
          refine md_laload (a := 110) (i := i) gd_M_seats_166 hR (by decide) rfl (by omega) ?_
          refine gz_lmul gd_M_seats_167 ?_
          refine gz_lload gd_M_seats_168 rfl ?_
          refine gz_lrem gd_M_seats_170 (hal) ?_
          refine md_lastore (a := 111) (i := i) gd_M_seats_171 hR (by decide) rfl (by omega) (fun M hR => ?_)
          refine gz_iload gd_M_seats_172 rfl ?_
          refine gz_aload_n gd_M_seats_174 rfl rfl (gz_isr.r _) ?_
          refine md_getf gd_M_seats_175 gf_M_97 hR rfl ?_
          refine gz_iload gd_M_seats_178 rfl ?_
          refine mt_iaload (a := 112) (i := i) gd_M_seats_180 hR rfl rfl (show _ < 6 from (by omega)) gs_same ?_
          refine gq_isub (z := _) gd_M_seats_181 rfl ?_
          refine gz_istore gd_M_seats_182 (Nat.le_of_ble_eq_true rfl) trivial ?_
          refine gz_iinc (v := nI (i + 1)) gd_M_seats_184 rfl (nI_1 i) (Nat.le_of_ble_eq_true rfl) rfl ?_
          refine gz_goto (tgt := 119) gd_M_seats_187 (by decide) ?_
          exact ih (i + 1) (by omega) _ hR hT.s_got
  exact loop 6 0 (by omega) _ hR hT

