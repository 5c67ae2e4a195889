/-! The reference: version, loop and head. Printed by wip/whole/m17.py -/
def y_vl (G : CT) (d : Nat) (inv : Int32) : Nat → CT × Bool × Int64
  | 0 => (G, false, inv.toInt64)
  | i + 1 => (((y_vl G d inv i).1.p_vote G.vs i ((y_vl G d inv i).1.draft i)).p_draft i 0, (y_vl G d inv i).2.1 || (decide (¬ d = 0) && decide (¬ (y_vl G d inv i).1.vote d i ≤ (y_vl G d inv i).1.draft i)), (y_vl G d inv i).2.2 + ((y_vl G d inv i).1.draft i).toInt64)
theorem vl_f {G : CT} {d : Nat} {inv : Int32} (h : JI G) : ∀ i, (y_vl G d inv i).1.vs = G.vs ∧ JI (y_vl G d inv i).1 ∧ pot (y_vl G d inv i).1 = pot G
  | 0 => ⟨rfl, h, rfl⟩
  | i + 1 => by
    obtain ⟨h1, h2, h3⟩ := vl_f (d := d) (inv := inv) h i
    exact ⟨h1, ⟨Bd.w_draft (Bd.w_vote h2.1), h2.2.1, h2.2.2⟩, h3⟩
theorem m_ver120 {l : Launch} {D : gzD} {K : gzK} {M : gzM} {n nc ns : Nat} {M0 : gzM} {S : gS} {L : gL} {G : CT} (hR : RF M0 S L M) (hT : Rel 12 true S G) {p d : Nat} {v inv bal : Int32} (hp : p < 40) (hd : d < G.vs) (hI : JI G) (hP : pot G < 9000) (k : ∀ S M, RF M0 S L M → Rel 12 true S (y_offer (y_v1 (y_vl G d inv 6).1 p (y_vl G d inv 6).1.vs v (y_mark ((y_vl G d inv 6).1.reg p) bal (y_vl G d inv 6).2.1 (y_vl G d inv 6).2.2)) p) → K (.inl (some (.int (y_mark ((y_vl G d inv 6).1.reg p) bal (y_vl G d inv 6).2.1 (y_vl G d inv 6).2.2)))) M n nc ns) : GZ l P1 D F_M_version K 120 [some (.ref 83), some (.int (nI p)), some (.int v), some (.int inv), some (.int bal), some (.int (nI d)), some (.long (y_vl G d inv 0).2.2), none, some (.int (bI (y_vl G d inv 0).2.1)), some (.int (nI 0)), none] [] M n nc ns := by
  have hv3 := hI.1.vs
  have loop : ∀ (j i : Nat), i + j = 6 → ∀ S M, RF M0 S L M → Rel 12 true S (y_vl G d inv i).1 → GZ l P1 D F_M_version K 120 [some (.ref 83), some (.int (nI p)), some (.int v), some (.int inv), some (.int bal), some (.int (nI d)), some (.long (y_vl G d inv i).2.2), none, some (.int (bI (y_vl G d inv i).2.1)), some (.int (nI i)), none] [] M n nc ns := by
    intro j
    induction j with
    | zero =>
      intro i hi S M hR hT
      obtain ⟨g1, g2, g3⟩ := vl_f (d := d) (inv := inv) hI i
      refine gz_iload gd_M_version_120 rfl ?_
      refine gz_bipush (v := 6) gd_M_version_122 (by decide) ?_
      refine gz_icmp_ge (tgt := 216) gd_M_version_124 (by decide) (fun h124 => ?_) (fun h124 => ?_)
      ·
        replace h124 := (nI_leI (a := 6) (b := i) (by omega) (by omega)).1 h124
        have e6 : i = 6 := by omega
        subst e6
        exact m_ver216 hR hT hp g2 (by rw [g3]; exact hP) (by rw [g1]; omega) k
      ·
        replace h124 := mt (nI_leI (a := 6) (b := i) (by omega) (by omega)).2 h124
        omega
    | succ j ih =>
      intro i hi S M hR hT
      obtain ⟨g1, g2, g3⟩ := vl_f (d := d) (inv := inv) hI i
      refine gz_iload gd_M_version_120 rfl ?_
      refine gz_bipush (v := 6) gd_M_version_122 (by decide) ?_
      refine gz_icmp_ge (tgt := 216) gd_M_version_124 (by decide) (fun h124 => ?_) (fun h124 => ?_)
      ·
        replace h124 := (nI_leI (a := 6) (b := i) (by omega) (by omega)).1 h124
        omega
      ·
        replace h124 := mt (nI_leI (a := 6) (b := i) (by omega) (by omega)).2 h124
        refine gz_aload_n gd_M_version_127 rfl rfl (gz_isr.r _) ?_
        refine md_getf gd_M_version_128 gf_M_26 hR rfl ?_
        refine gz_bipush (v := 6) gd_M_version_131 (by decide) ?_
        refine gz_aload_n gd_M_version_133 rfl rfl (gz_isr.r _) ?_
        refine mt_geti gd_M_version_134 gf_M_157 hR rfl (show _ = nI G.vs from hT.vs.trans (congrArg nI g1)) ?_
        refine gq_imul (z := nI (6 * G.vs)) gd_M_version_137 (pk_mul 6 G.vs) ?_
        refine gz_iload gd_M_version_138 rfl ?_
        refine gq_iadd (z := nI (6 * G.vs + i)) gd_M_version_140 (nI_add (6 * G.vs) i) ?_
        refine gz_aload_n gd_M_version_141 rfl rfl (gz_isr.r _) ?_
        refine md_getf gd_M_version_142 gf_M_32 hR rfl ?_
        refine gz_iload gd_M_version_145 rfl ?_
        refine mt_iaload (a := 91) (i := i) gd_M_version_147 hR rfl rfl (show _ < 6 from (by omega)) (show _ = (y_vl G d inv i).1.draft i from hT.draft i (by omega)) ?_
        refine mt_iastore (T := (y_vl G d inv i).1.p_vote G.vs i ((y_vl G d inv i).1.draft i)) (a := 89) (i := 6 * G.vs + i) gd_M_version_148 hR rfl rfl (show _ < 1806 from (by omega)) (hT.s_vote (by omega) (by omega) rfl) (fun S M hR hT => ?_)
        refine gz_iload gd_M_version_149 rfl ?_
        refine gz_if_ne (tgt := 182) gd_M_version_151 (by decide) (fun h151 => ?_) (fun h151 => ?_)
        ·
          replace h151 := bI_n.1 h151
          refine gz_iconst (v := 1) gd_M_version_182 (by decide) ?_
          refine gz_goto (tgt := 187) gd_M_version_183 (by decide) ?_
          refine gz_istore gd_M_version_187 (Nat.le_of_ble_eq_true rfl) trivial ?_
          refine gz_lload gd_M_version_189 rfl ?_
          refine gz_aload_n gd_M_version_191 rfl rfl (gz_isr.r _) ?_
          refine md_getf gd_M_version_192 gf_M_32 hR rfl ?_
          refine gz_iload gd_M_version_195 rfl ?_
          refine mt_iaload (a := 91) (i := i) gd_M_version_197 hR rfl rfl (show _ < 6 from (by omega)) (show _ = (y_vl G d inv i).1.draft i from hT.draft i (by omega)) ?_
          refine gz_i2l gd_M_version_198 ?_
          refine gz_ladd gd_M_version_199 ?_
          refine gz_lstore gd_M_version_200 (Nat.le_of_ble_eq_true rfl) rfl ?_
          refine gz_aload_n gd_M_version_202 rfl rfl (gz_isr.r _) ?_
          refine md_getf gd_M_version_203 gf_M_32 hR rfl ?_
          refine gz_iload gd_M_version_206 rfl ?_
          refine gz_iconst (v := 0) gd_M_version_208 (by decide) ?_
          refine mt_iastore (T := ((y_vl G d inv i).1.p_vote G.vs i ((y_vl G d inv i).1.draft i)).p_draft i 0) (a := 91) (i := i) gd_M_version_209 hR rfl rfl (show _ < 6 from (by omega)) (hT.s_draft (by omega) rfl) (fun S M hR hT => ?_)
          refine gz_iinc (v := nI (i + 1)) gd_M_version_210 rfl (nI_1 i) (Nat.le_of_ble_eq_true rfl) rfl ?_
          refine gz_goto (tgt := 120) gd_M_version_213 (by decide) ?_
          have e : bI ((y_vl G d inv i).2.1 || (decide (¬ d = 0) && decide (¬ (y_vl G d inv i).1.vote d i ≤ (y_vl G d inv i).1.draft i))) = 1 := by rw [h151]; rfl
          have ih2 := ih (i + 1) (by omega) _ _ hR hT
          have e3 : bI (y_vl G d inv (i + 1)).2.1 = 1 := e
          rw [e3] at ih2
          exact ih2
        ·
          replace h151 := bI_0.1 h151
          refine gz_iload gd_M_version_154 rfl ?_
          refine gz_if_le (tgt := 186) gd_M_version_156 (by decide) (fun h156 => ?_) (fun h156 => ?_)
          ·
            replace h156 := (nI_le0 (by omega)).1 h156
            refine gz_iconst (v := 0) gd_M_version_186 (by decide) ?_
            refine gz_istore gd_M_version_187 (Nat.le_of_ble_eq_true rfl) trivial ?_
            refine gz_lload gd_M_version_189 rfl ?_
            refine gz_aload_n gd_M_version_191 rfl rfl (gz_isr.r _) ?_
            refine md_getf gd_M_version_192 gf_M_32 hR rfl ?_
            refine gz_iload gd_M_version_195 rfl ?_
            refine mt_iaload (a := 91) (i := i) gd_M_version_197 hR rfl rfl (show _ < 6 from (by omega)) (show _ = (y_vl G d inv i).1.draft i from hT.draft i (by omega)) ?_
            refine gz_i2l gd_M_version_198 ?_
            refine gz_ladd gd_M_version_199 ?_
            refine gz_lstore gd_M_version_200 (Nat.le_of_ble_eq_true rfl) rfl ?_
            refine gz_aload_n gd_M_version_202 rfl rfl (gz_isr.r _) ?_
            refine md_getf gd_M_version_203 gf_M_32 hR rfl ?_
            refine gz_iload gd_M_version_206 rfl ?_
            refine gz_iconst (v := 0) gd_M_version_208 (by decide) ?_
            refine mt_iastore (T := ((y_vl G d inv i).1.p_vote G.vs i ((y_vl G d inv i).1.draft i)).p_draft i 0) (a := 91) (i := i) gd_M_version_209 hR rfl rfl (show _ < 6 from (by omega)) (hT.s_draft (by omega) rfl) (fun S M hR hT => ?_)
            refine gz_iinc (v := nI (i + 1)) gd_M_version_210 rfl (nI_1 i) (Nat.le_of_ble_eq_true rfl) rfl ?_
            refine gz_goto (tgt := 120) gd_M_version_213 (by decide) ?_
            have e : bI ((y_vl G d inv i).2.1 || (decide (¬ d = 0) && decide (¬ (y_vl G d inv i).1.vote d i ≤ (y_vl G d inv i).1.draft i))) = 0 := by rw [h151, decide_eq_false (fun z => z h156)]; rfl
            have ih2 := ih (i + 1) (by omega) _ _ hR hT
            have e3 : bI (y_vl G d inv (i + 1)).2.1 = 0 := e
            rw [e3] at ih2
            exact ih2
          ·
            replace h156 := mt (nI_le0 (by omega)).2 h156
            refine gz_aload_n gd_M_version_159 rfl rfl (gz_isr.r _) ?_
            refine md_getf gd_M_version_160 gf_M_32 hR rfl ?_
            refine gz_iload gd_M_version_163 rfl ?_
            refine mt_iaload (a := 91) (i := i) gd_M_version_165 hR rfl rfl (show _ < 6 from (by omega)) (show _ = (y_vl G d inv i).1.draft i from hT.draft i (by omega)) ?_
            refine gz_aload_n gd_M_version_166 rfl rfl (gz_isr.r _) ?_
            refine md_getf gd_M_version_167 gf_M_26 hR rfl ?_
            refine gz_bipush (v := 6) gd_M_version_170 (by decide) ?_
            refine gz_iload gd_M_version_172 rfl ?_
            refine gq_imul (z := nI (6 * d)) gd_M_version_174 (pk_mul 6 d) ?_
            refine gz_iload gd_M_version_175 rfl ?_
            refine gq_iadd (z := nI (6 * d + i)) gd_M_version_177 (nI_add (6 * d) i) ?_
            refine mt_iaload (a := 89) (i := 6 * d + i) gd_M_version_178 hR rfl rfl (show _ < 1806 from (by omega)) (show _ = (y_vl G d inv i).1.vote d i from (hT.vote d i (by omega) (by omega)).trans (show ct2 _ G.vs i _ d i = _ from ct2_n (fun z => by omega))) ?_
            refine gz_icmp_ge (tgt := 186) gd_M_version_179 (by decide) (fun h179 => ?_) (fun h179 => ?_)
            ·
              refine gz_iconst (v := 0) gd_M_version_186 (by decide) ?_
              refine gz_istore gd_M_version_187 (Nat.le_of_ble_eq_true rfl) trivial ?_
              refine gz_lload gd_M_version_189 rfl ?_
              refine gz_aload_n gd_M_version_191 rfl rfl (gz_isr.r _) ?_
              refine md_getf gd_M_version_192 gf_M_32 hR rfl ?_
              refine gz_iload gd_M_version_195 rfl ?_
              refine mt_iaload (a := 91) (i := i) gd_M_version_197 hR rfl rfl (show _ < 6 from (by omega)) (show _ = (y_vl G d inv i).1.draft i from hT.draft i (by omega)) ?_
              refine gz_i2l gd_M_version_198 ?_
              refine gz_ladd gd_M_version_199 ?_
              refine gz_lstore gd_M_version_200 (Nat.le_of_ble_eq_true rfl) rfl ?_
              refine gz_aload_n gd_M_version_202 rfl rfl (gz_isr.r _) ?_
              refine md_getf gd_M_version_203 gf_M_32 hR rfl ?_
              refine gz_iload gd_M_version_206 rfl ?_
              refine gz_iconst (v := 0) gd_M_version_208 (by decide) ?_
              refine mt_iastore (T := ((y_vl G d inv i).1.p_vote G.vs i ((y_vl G d inv i).1.draft i)).p_draft i 0) (a := 91) (i := i) gd_M_version_209 hR rfl rfl (show _ < 6 from (by omega)) (hT.s_draft (by omega) rfl) (fun S M hR hT => ?_)
              refine gz_iinc (v := nI (i + 1)) gd_M_version_210 rfl (nI_1 i) (Nat.le_of_ble_eq_true rfl) rfl ?_
              refine gz_goto (tgt := 120) gd_M_version_213 (by decide) ?_
              have e : bI ((y_vl G d inv i).2.1 || (decide (¬ d = 0) && decide (¬ (y_vl G d inv i).1.vote d i ≤ (y_vl G d inv i).1.draft i))) = 0 := by rw [h151, decide_eq_true h156, decide_eq_false (fun z => z h179)]; rfl
              have ih2 := ih (i + 1) (by omega) _ _ hR hT
              have e3 : bI (y_vl G d inv (i + 1)).2.1 = 0 := e
              rw [e3] at ih2
              exact ih2
            ·
              refine gz_iconst (v := 1) gd_M_version_182 (by decide) ?_
              refine gz_goto (tgt := 187) gd_M_version_183 (by decide) ?_
              refine gz_istore gd_M_version_187 (Nat.le_of_ble_eq_true rfl) trivial ?_
              refine gz_lload gd_M_version_189 rfl ?_
              refine gz_aload_n gd_M_version_191 rfl rfl (gz_isr.r _) ?_
              refine md_getf gd_M_version_192 gf_M_32 hR rfl ?_
              refine gz_iload gd_M_version_195 rfl ?_
              refine mt_iaload (a := 91) (i := i) gd_M_version_197 hR rfl rfl (show _ < 6 from (by omega)) (show _ = (y_vl G d inv i).1.draft i from hT.draft i (by omega)) ?_
              refine gz_i2l gd_M_version_198 ?_
              refine gz_ladd gd_M_version_199 ?_
              refine gz_lstore gd_M_version_200 (Nat.le_of_ble_eq_true rfl) rfl ?_
              refine gz_aload_n gd_M_version_202 rfl rfl (gz_isr.r _) ?_
              refine md_getf gd_M_version_203 gf_M_32 hR rfl ?_
              refine gz_iload gd_M_version_206 rfl ?_
              refine gz_iconst (v := 0) gd_M_version_208 (by decide) ?_
              refine mt_iastore (T := ((y_vl G d inv i).1.p_vote G.vs i ((y_vl G d inv i).1.draft i)).p_draft i 0) (a := 91) (i := i) gd_M_version_209 hR rfl rfl (show _ < 6 from (by omega)) (hT.s_draft (by omega) rfl) (fun S M hR hT => ?_)
              refine gz_iinc (v := nI (i + 1)) gd_M_version_210 rfl (nI_1 i) (Nat.le_of_ble_eq_true rfl) rfl ?_
              refine gz_goto (tgt := 120) gd_M_version_213 (by decide) ?_
              have e : bI ((y_vl G d inv i).2.1 || (decide (¬ d = 0) && decide (¬ (y_vl G d inv i).1.vote d i ≤ (y_vl G d inv i).1.draft i))) = 1 := by rw [h151, decide_eq_true h156, decide_eq_true h179]; rfl
              have ih2 := ih (i + 1) (by omega) _ _ hR hT
              have e3 : bI (y_vl G d inv (i + 1)).2.1 = 1 := e
              rw [e3] at ih2
              exact ih2
  exact loop 6 0 (by omega) _ _ hR hT
