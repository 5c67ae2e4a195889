/-! The law: its loop, case by case. Printed by wip/whole/law2.py -/
section LW6
variable {l : Launch} {P : gzP} {D : gzD} {F Fy : gzF} {K : gzK} {pc idx maxL : Nat} {gl : List (Option Value)} {gst : List Value} {M : gzM} {n nc ns : Nat}
theorem gz_static6 {v1 v2 v3 v4 v5 v6 : Value} (hd : decode F.2.1 pc = .ok (.invokestatic idx, 3)) (cs : gz_cS P F Fy idx maxL 6) (hmx : (gz_sl [v1, v2, v3, v4, v5, v6]).length ≤ maxL) (hW : (gst.map fun v => v.category).sum + (maxL + 11) + Fy.2.2.1.2 ≤ F.2.2.1.2) (k : GZ l P D Fy (gz_back l P D F K pc 3 gl gst) 0 (gz_ent [v1, v2, v3, v4, v5, v6] maxL) [] M n nc ns) : GZ l P D F K pc gl (v6 :: v5 :: v4 :: v3 :: v2 :: v1 :: gst) M n nc ns := gz_static (vs := [v1, v2, v3, v4, v5, v6]) hd cs rfl rfl hmx hW k
end LW6
theorem RF.self {M0 M : gzM} {S : gS} {L : gL} (h : RF M0 S L M) : RF M S L M := ⟨h.1, h.2.1, h.2.2.1, fun k _ => rfl⟩
theorem md_in_le {k : Nat} (h : md_in k = true) : 84 ≤ k ∧ k ≤ 112 := by
  simp only [md_in, Bool.and_eq_true, decide_eq_true_eq] at h
  omega
theorem RF.mv {M M1 : gzM} {S : gS} {L : gL} (h : RF M S L M) (hF : ∀ k, 82 < k → k < 113 → M1 k = M k) : RF M1 S L M1 := by
  refine ⟨(hF 83 (by omega) (by omega)).trans h.1, fun k hk => ?_, fun k hk => (hF k (by omega) (by omega)).trans (h.2.2.1 k hk), fun k _ => rfl⟩
  have := md_in_le hk
  exact (hF k (by omega) (by omega)).trans (h.2.1 k hk)
theorem RF.sd {M0 M : gzM} {S : gS} {L : gL} {y : Nat × Nat × (Nat → Value)} (h : RF M0 S L M) (hO : M 113 = some (.inl y)) : SD M := by
  intro k h1 h2 ci fs hk
  by_cases c0 : k = 83
  · rw [c0, h.1] at hk
    cases hk; rfl
  · by_cases c1 : k = 113
    · rw [c1, hO] at hk
      cases hk
    · by_cases c2 : k = 110 ∨ k = 111
      · rw [h.2.2.1 k c2] at hk
        cases hk
      · rw [h.2.1 k (by simp only [md_in, Bool.and_eq_true, decide_eq_true_eq]; omega)] at hk
        cases hk
theorem m_thr {l : Launch} {D : gzD} {K : gzK} {M : gzM} {n nc ns : Nat} {M0 : gzM} {S : gS} {L : gL} {U : CT} (hR : RF M0 S L M) (hT : Rel 12 true S U) (k : ∀ S M, RF M0 S L M → Rel 12 true S U → K (.inl (some (.int U.code))) M n nc ns) : GZ l P1 D F_M_thrown K 0 [some (.ref 83)] [] M n nc ns := m_thrown2 hR hT k
/-- the law's loop after a call -/
def LK (l : Launch) (D : gzD) (K : gzK) (len : Nat) (sc : Nat → Int32) (i b q : Nat) : Prop :=
  ∀ (S : gS) (L : gL) (v : gV) (g : gG) (T : CT) (f : Nat → Value) (M : gzM) (n nc ns : Nat) (a5 a6 a7 : Option Value), RF M S L M → RC M b v g T M n nc ns → Rel 12 true S T → IV T q → M 2 = some (.inl (0, len, fun j => .int (sc j))) → M 113 = some (.inl (2, 1, f)) → GZ l P1 D F_L_law K 1511 [some (.ref 2), some (.ref 3), some (.ref 83), some (.ref 113), some (.int (nI i)), a5, a6, a7] [] M n nc ns
theorem IV.included {T : CT} {q : Nat} (h : IV T q) {x0 x1 : Int32} : IV (z_included T x0 x1).2 (q + 1) := by
  unfold z_included
  repeat' split
  all_goals first | exact h.code.next | exact h.next
theorem IV.through {T : CT} {q : Nat} (h : IV T q) {x0 x1 : Int32} : IV (z_through T x0 x1).2 (q + 1) := by
  unfold z_through
  repeat' split
  all_goals first | exact h.code.next | exact h.next
theorem IV.newest {T : CT} {q : Nat} (h : IV T q) {x0 : Int32} : IV (z_newest T x0).2 (q + 1) := by
  unfold z_newest
  repeat' split
  all_goals first | exact h.code.next | exact h.next
theorem IV.letter {T : CT} {q : Nat} (h : IV T q) {x0 x1 : Int32} : IV (z_letter T x0 x1).2 (q + 1) := by
  unfold z_letter
  repeat' split
  all_goals first | exact h.code.next | exact h.next
theorem IV.sum {T : CT} {q : Nat} (h : IV T q) {x0 x1 : Int32} : IV (z_sum T x0 x1).2 (q + 1) := by
  unfold z_sum
  repeat' split
  all_goals first | exact h.code.next | exact h.next
theorem IV.held {T : CT} {q : Nat} (h : IV T q) {x0 x1 x2 : Int32} : IV (z_held T x0 x1 x2).2 (q + 1) := by
  unfold z_held
  repeat' split
  all_goals first | exact h.code.next | exact h.next
theorem IV.marked {T : CT} {q : Nat} (h : IV T q) {x0 : Int32} : IV (z_marked T x0).2 (q + 1) := by
  unfold z_marked
  repeat' split
  all_goals first | exact h.code.next | exact h.next
theorem IV.office {T : CT} {q : Nat} (h : IV T q) {x0 x1 : Int32} : IV (z_office T x0 x1).2 (q + 1) := by
  unfold z_office
  repeat' split
  all_goals first | exact h.code.next | exact h.next
theorem IV.seats {T : CT} {q : Nat} (h : IV T q) {x0 x1 x2 x3 : Int32} : IV (z_seats T x0 x1 x2 x3).2 (q + 1) := by
  unfold z_seats
  repeat' split
  all_goals first | exact h.code.next | exact h.next
theorem IV.letters {T : CT} {q : Nat} (h : IV T q) : IV (z_letters T).2 (q + 1) := h.code.next
theorem IV.atRest {T : CT} {q : Nat} (h : IV T q) : IV (z_atRest T).2 (q + 1) := h.code.next
theorem IV.astray {T : CT} {q : Nat} (h : IV T q) : IV (z_astray T).2 (q + 1) := h.code.next
theorem lc_precinct {l : Launch} {D : gzD} {K : gzK} {M : gzM} {n nc ns : Nat} {b : Nat} {v : gV} {g : gG} {T : CT} {q : Nat} {S : gS} {L : gL} {f : Nat → Value} {len i : Nat} {sc : Nat → Int32} {a5 a6 a7 : Option Value} (hR : RF M S L M) (hC : RC M b v g T M n nc ns) (hT : Rel 12 true S T) (hV : IV T q) (hq : q < 512) (hD : RM D) (hb : b + 1000 ≤ 300000) (hls : l.stackTraces = false) (h2 : M 2 = some (.inl (0, len, fun j => .int (sc j)))) (hO : M 113 = some (.inl (2, 1, f))) (hi : i + 5 ≤ len) (hl : len ≤ 2560) (k : LK l D K len sc i (b + 560) (q + 1)) : GZ l P1 D F_L_law K 144 [some (.ref 2), some (.ref 3), some (.ref 83), some (.ref 113), some (.int (nI i)), a5, a6, a7] [] M n nc ns := by
  refine gz_aload_n gd_L_law_144 rfl rfl (gz_isr.r _) ?_
  refine gz_aload_n gd_L_law_145 rfl rfl (gz_isr.r _) ?_
  refine gz_iload gd_L_law_146 rfl ?_
  refine gz_iconst (v := 1) gd_L_law_148 (by decide) ?_
  refine gq_iadd (z := nI (i + 1)) gd_L_law_149 (nI_add i 1) ?_
  refine gz_iaload (i := i + 1) gd_L_law_150 rfl h2 rfl (by omega) (by omega) rfl ?_
  refine gz_aload_n gd_L_law_151 rfl rfl (gz_isr.r _) ?_
  refine gz_iload gd_L_law_152 rfl ?_
  refine gz_iconst (v := 2) gd_L_law_154 (by decide) ?_
  refine gq_iadd (z := nI (i + 2)) gd_L_law_155 (nI_add i 2) ?_
  refine gz_iaload (i := i + 2) gd_L_law_156 rfl h2 rfl (by omega) (by omega) rfl ?_
  refine gz_aload_n gd_L_law_157 rfl rfl (gz_isr.r _) ?_
  refine gz_iload gd_L_law_158 rfl ?_
  refine gz_iconst (v := 3) gd_L_law_160 (by decide) ?_
  refine gq_iadd (z := nI (i + 3)) gd_L_law_161 (nI_add i 3) ?_
  refine gz_iaload (i := i + 3) gd_L_law_162 rfl h2 rfl (by omega) (by omega) rfl ?_
  refine gz_static4 gd_L_law_163 gs_L_law_163 (Nat.le_of_ble_eq_true rfl) (Nat.le_of_ble_eq_true rfl) ?_
  refine lw_precinct hC hD hb hls hV hq (hR.sd hO) hO (fun M1 n1 nc1 ns1 hW => ?_)
  obtain ⟨v1, g1, f1, hC1, hF1, h21, hO1⟩ := hW
  have hR1 := hR.mv hF1
  have h2b := h21.trans h2
  refine gz_istore gd_L_law_166 (Nat.le_of_ble_eq_true rfl) rfl ?_
  refine gz_aload_n gd_L_law_168 rfl rfl (gz_isr.r _) ?_
  refine gz_aload_n gd_L_law_169 rfl rfl (gz_isr.r _) ?_
  refine gz_iload gd_L_law_170 rfl ?_
  refine gz_iconst (v := 1) gd_L_law_172 (by decide) ?_
  refine gq_iadd (z := nI (i + 1)) gd_L_law_173 (nI_add i 1) ?_
  refine gz_iaload (i := i + 1) gd_L_law_174 rfl h2b rfl (by omega) (by omega) rfl ?_
  refine gz_aload_n gd_L_law_175 rfl rfl (gz_isr.r _) ?_
  refine gz_iload gd_L_law_176 rfl ?_
  refine gz_iconst (v := 2) gd_L_law_178 (by decide) ?_
  refine gq_iadd (z := nI (i + 2)) gd_L_law_179 (nI_add i 2) ?_
  refine gz_iaload (i := i + 2) gd_L_law_180 rfl h2b rfl (by omega) (by omega) rfl ?_
  refine gz_aload_n gd_L_law_181 rfl rfl (gz_isr.r _) ?_
  refine gz_iload gd_L_law_182 rfl ?_
  refine gz_iconst (v := 3) gd_L_law_184 (by decide) ?_
  refine gq_iadd (z := nI (i + 3)) gd_L_law_185 (nI_add i 3) ?_
  refine gz_iaload (i := i + 3) gd_L_law_186 rfl h2b rfl (by omega) (by omega) rfl ?_
  refine gz_virtual3 gd_L_law_187 hR1.1 rfl rfl gs_L_law_187 (Nat.le_of_ble_eq_true rfl) (Nat.le_of_ble_eq_true rfl) ?_
  refine m_precinct hR1 hT (fun S2 M2 hR2 hT2 => ?_)
  refine gz_aload_n gd_L_law_190 rfl rfl (gz_isr.r _) ?_
  refine gz_virtual0 gd_L_law_191 hR2.1 rfl rfl gs_L_law_191 (Nat.le_of_ble_eq_true rfl) (Nat.le_of_ble_eq_true rfl) ?_
  refine m_thr hR2 hT2 (fun S3 M3 hR3 hT3 => ?_)
  refine gz_iload gd_L_law_194 rfl ?_
  refine gz_icmp_eq (tgt := 201) gd_L_law_196 (by decide) (fun h196 => ?_) (fun h196 => ?_)
  ·
    refine gz_goto (tgt := 1511) gd_L_law_201 (by decide) ?_
    exact k _ _ _ _ _ _ _ _ _ _ _ _ _ hR3.self (hC1.side (hR1.sd hO1) (fun j hj => hR3.2.2.2 j (by omega))) hT3 (hV.precinct) ((hR3.2.2.2 2 (by omega)).trans h2b) ((hR3.2.2.2 113 (by omega)).trans hO1)
  ·
    exact absurd rfl h196

theorem lc_votes {l : Launch} {D : gzD} {K : gzK} {M : gzM} {n nc ns : Nat} {b : Nat} {v : gV} {g : gG} {T : CT} {q : Nat} {S : gS} {L : gL} {f : Nat → Value} {len i : Nat} {sc : Nat → Int32} {a5 a6 a7 : Option Value} (hR : RF M S L M) (hC : RC M b v g T M n nc ns) (hT : Rel 12 true S T) (hV : IV T q) (hq : q < 512) (hD : RM D) (hb : b + 1000 ≤ 300000) (hls : l.stackTraces = false) (h2 : M 2 = some (.inl (0, len, fun j => .int (sc j)))) (hO : M 113 = some (.inl (2, 1, f))) (hi : i + 5 ≤ len) (hl : len ≤ 2560) (k : LK l D K len sc i (b + 560) (q + 1)) : GZ l P1 D F_L_law K 204 [some (.ref 2), some (.ref 3), some (.ref 83), some (.ref 113), some (.int (nI i)), a5, a6, a7] [] M n nc ns := by
  refine gz_aload_n gd_L_law_204 rfl rfl (gz_isr.r _) ?_
  refine gz_aload_n gd_L_law_205 rfl rfl (gz_isr.r _) ?_
  refine gz_iload gd_L_law_206 rfl ?_
  refine gz_iconst (v := 1) gd_L_law_208 (by decide) ?_
  refine gq_iadd (z := nI (i + 1)) gd_L_law_209 (nI_add i 1) ?_
  refine gz_iaload (i := i + 1) gd_L_law_210 rfl h2 rfl (by omega) (by omega) rfl ?_
  refine gz_aload_n gd_L_law_211 rfl rfl (gz_isr.r _) ?_
  refine gz_iload gd_L_law_212 rfl ?_
  refine gz_iconst (v := 2) gd_L_law_214 (by decide) ?_
  refine gq_iadd (z := nI (i + 2)) gd_L_law_215 (nI_add i 2) ?_
  refine gz_iaload (i := i + 2) gd_L_law_216 rfl h2 rfl (by omega) (by omega) rfl ?_
  refine gz_aload_n gd_L_law_217 rfl rfl (gz_isr.r _) ?_
  refine gz_static4 gd_L_law_218 gs_L_law_218 (Nat.le_of_ble_eq_true rfl) (Nat.le_of_ble_eq_true rfl) ?_
  refine lw_votes hC hD hb hls hV hq (hR.sd hO) hO (fun M1 n1 nc1 ns1 hW => ?_)
  obtain ⟨v1, g1, f1, hC1, hF1, h21, hO1, hA1⟩ := hW
  have hR1 := hR.mv hF1
  have h2b := h21.trans h2
  refine gz_istore gd_L_law_221 (Nat.le_of_ble_eq_true rfl) rfl ?_
  refine gz_aload_n gd_L_law_223 rfl rfl (gz_isr.r _) ?_
  refine gz_aload_n gd_L_law_224 rfl rfl (gz_isr.r _) ?_
  refine gz_iload gd_L_law_225 rfl ?_
  refine gz_iconst (v := 1) gd_L_law_227 (by decide) ?_
  refine gq_iadd (z := nI (i + 1)) gd_L_law_228 (nI_add i 1) ?_
  refine gz_iaload (i := i + 1) gd_L_law_229 rfl h2b rfl (by omega) (by omega) rfl ?_
  refine gz_aload_n gd_L_law_230 rfl rfl (gz_isr.r _) ?_
  refine gz_iload gd_L_law_231 rfl ?_
  refine gz_iconst (v := 2) gd_L_law_233 (by decide) ?_
  refine gq_iadd (z := nI (i + 2)) gd_L_law_234 (nI_add i 2) ?_
  refine gz_iaload (i := i + 2) gd_L_law_235 rfl h2b rfl (by omega) (by omega) rfl ?_
  refine gz_virtual2 gd_L_law_236 hR1.1 rfl rfl gs_L_law_236 (Nat.le_of_ble_eq_true rfl) (Nat.le_of_ble_eq_true rfl) ?_
  refine m_votes hR1 hT (fun S2 M2 hR2 hT2 => ?_)
  refine gz_istore gd_L_law_239 (Nat.le_of_ble_eq_true rfl) rfl ?_
  refine gz_aload_n gd_L_law_241 rfl rfl (gz_isr.r _) ?_
  refine gz_virtual0 gd_L_law_242 hR2.1 rfl rfl gs_L_law_242 (Nat.le_of_ble_eq_true rfl) (Nat.le_of_ble_eq_true rfl) ?_
  refine m_thr hR2 hT2 (fun S3 M3 hR3 hT3 => ?_)
  refine gz_iload gd_L_law_245 rfl ?_
  refine gz_icmp_eq (tgt := 252) gd_L_law_247 (by decide) (fun h247 => ?_) (fun h247 => ?_)
  ·
    refine gz_iload gd_L_law_252 rfl ?_
    refine gz_if_ne (tgt := 269) gd_L_law_254 (by decide) (fun h254 => ?_) (fun h254 => ?_)
    ·
      refine gz_goto (tgt := 1511) gd_L_law_269 (by decide) ?_
      exact k _ _ _ _ _ _ _ _ _ _ _ _ _ hR3.self (hC1.side (hR1.sd hO1) (fun j hj => hR3.2.2.2 j (by omega))) hT3 (hV.votes) ((hR3.2.2.2 2 (by omega)).trans h2b) ((hR3.2.2.2 113 (by omega)).trans hO1)
    ·
      have hA := hA1 h254
      have hO3 := (hR3.2.2.2 113 (by omega)).trans hO1
      refine gz_aload_n gd_L_law_257 rfl rfl (gz_isr.r _) ?_
      refine gz_iconst (v := 0) gd_L_law_258 (by decide) ?_
      refine gz_laload (i := 0) gd_L_law_259 rfl hO3 rfl (by decide) (by decide) hA ?_
      refine gz_iload gd_L_law_260 rfl ?_
      refine gz_i2l gd_L_law_262 ?_
      refine gz_lcmp gd_L_law_263 ?_
      refine gz_if_eq (tgt := 269) gd_L_law_264 (by decide) (fun h264 => ?_) (fun h264 => ?_)
      ·
        refine gz_goto (tgt := 1511) gd_L_law_269 (by decide) ?_
        exact k _ _ _ _ _ _ _ _ _ _ _ _ _ hR3.self (hC1.side (hR1.sd hO1) (fun j hj => hR3.2.2.2 j (by omega))) hT3 (hV.votes) ((hR3.2.2.2 2 (by omega)).trans h2b) ((hR3.2.2.2 113 (by omega)).trans hO1)
      ·
        exact absurd ((lg_cmp_eq _ _).2 rfl) h264
  ·
    exact absurd rfl h247

theorem lc_version {l : Launch} {D : gzD} {K : gzK} {M : gzM} {n nc ns : Nat} {b : Nat} {v : gV} {g : gG} {T : CT} {q : Nat} {S : gS} {L : gL} {f : Nat → Value} {len i : Nat} {sc : Nat → Int32} {a5 a6 a7 : Option Value} (hR : RF M S L M) (hC : RC M b v g T M n nc ns) (hT : Rel 12 true S T) (hV : IV T q) (hq : q < 512) (hD : RM D) (hb : b + 1000 ≤ 300000) (hls : l.stackTraces = false) (h2 : M 2 = some (.inl (0, len, fun j => .int (sc j)))) (hO : M 113 = some (.inl (2, 1, f))) (hi : i + 5 ≤ len) (hl : len ≤ 2560) (k : LK l D K len sc i (b + 560) (q + 1)) : GZ l P1 D F_L_law K 272 [some (.ref 2), some (.ref 3), some (.ref 83), some (.ref 113), some (.int (nI i)), a5, a6, a7] [] M n nc ns := by
  refine gz_aload_n gd_L_law_272 rfl rfl (gz_isr.r _) ?_
  refine gz_aload_n gd_L_law_273 rfl rfl (gz_isr.r _) ?_
  refine gz_iload gd_L_law_274 rfl ?_
  refine gz_iconst (v := 1) gd_L_law_276 (by decide) ?_
  refine gq_iadd (z := nI (i + 1)) gd_L_law_277 (nI_add i 1) ?_
  refine gz_iaload (i := i + 1) gd_L_law_278 rfl h2 rfl (by omega) (by omega) rfl ?_
  refine gz_aload_n gd_L_law_279 rfl rfl (gz_isr.r _) ?_
  refine gz_iload gd_L_law_280 rfl ?_
  refine gz_iconst (v := 2) gd_L_law_282 (by decide) ?_
  refine gq_iadd (z := nI (i + 2)) gd_L_law_283 (nI_add i 2) ?_
  refine gz_iaload (i := i + 2) gd_L_law_284 rfl h2 rfl (by omega) (by omega) rfl ?_
  refine gz_aload_n gd_L_law_285 rfl rfl (gz_isr.r _) ?_
  refine gz_iload gd_L_law_286 rfl ?_
  refine gz_iconst (v := 3) gd_L_law_288 (by decide) ?_
  refine gq_iadd (z := nI (i + 3)) gd_L_law_289 (nI_add i 3) ?_
  refine gz_iaload (i := i + 3) gd_L_law_290 rfl h2 rfl (by omega) (by omega) rfl ?_
  refine gz_aload_n gd_L_law_291 rfl rfl (gz_isr.r _) ?_
  refine gz_iload gd_L_law_292 rfl ?_
  refine gz_iconst (v := 4) gd_L_law_294 (by decide) ?_
  refine gq_iadd (z := nI (i + 4)) gd_L_law_295 (nI_add i 4) ?_
  refine gz_iaload (i := i + 4) gd_L_law_296 rfl h2 rfl (by omega) (by omega) rfl ?_
  refine gz_aload_n gd_L_law_297 rfl rfl (gz_isr.r _) ?_
  refine gz_static6 gd_L_law_298 gs_L_law_298 (Nat.le_of_ble_eq_true rfl) (Nat.le_of_ble_eq_true rfl) ?_
  refine lw_version hC hD hb hls hV hq (hR.sd hO) hO (fun M1 n1 nc1 ns1 hW => ?_)
  obtain ⟨v1, g1, f1, hC1, hF1, h21, hO1, hA1⟩ := hW
  have hR1 := hR.mv hF1
  have h2b := h21.trans h2
  refine gz_istore gd_L_law_301 (Nat.le_of_ble_eq_true rfl) rfl ?_
  refine gz_aload_n gd_L_law_303 rfl rfl (gz_isr.r _) ?_
  refine gz_aload_n gd_L_law_304 rfl rfl (gz_isr.r _) ?_
  refine gz_iload gd_L_law_305 rfl ?_
  refine gz_iconst (v := 1) gd_L_law_307 (by decide) ?_
  refine gq_iadd (z := nI (i + 1)) gd_L_law_308 (nI_add i 1) ?_
  refine gz_iaload (i := i + 1) gd_L_law_309 rfl h2b rfl (by omega) (by omega) rfl ?_
  refine gz_aload_n gd_L_law_310 rfl rfl (gz_isr.r _) ?_
  refine gz_iload gd_L_law_311 rfl ?_
  refine gz_iconst (v := 2) gd_L_law_313 (by decide) ?_
  refine gq_iadd (z := nI (i + 2)) gd_L_law_314 (nI_add i 2) ?_
  refine gz_iaload (i := i + 2) gd_L_law_315 rfl h2b rfl (by omega) (by omega) rfl ?_
  refine gz_aload_n gd_L_law_316 rfl rfl (gz_isr.r _) ?_
  refine gz_iload gd_L_law_317 rfl ?_
  refine gz_iconst (v := 3) gd_L_law_319 (by decide) ?_
  refine gq_iadd (z := nI (i + 3)) gd_L_law_320 (nI_add i 3) ?_
  refine gz_iaload (i := i + 3) gd_L_law_321 rfl h2b rfl (by omega) (by omega) rfl ?_
  refine gz_aload_n gd_L_law_322 rfl rfl (gz_isr.r _) ?_
  refine gz_iload gd_L_law_323 rfl ?_
  refine gz_iconst (v := 4) gd_L_law_325 (by decide) ?_
  refine gq_iadd (z := nI (i + 4)) gd_L_law_326 (nI_add i 4) ?_
  refine gz_iaload (i := i + 4) gd_L_law_327 rfl h2b rfl (by omega) (by omega) rfl ?_
  refine gz_virtual4 gd_L_law_328 hR1.1 rfl rfl gs_L_law_328 (Nat.le_of_ble_eq_true rfl) (Nat.le_of_ble_eq_true rfl) ?_
  refine m_version hR1 hT hV.ji (by have := hV.pb (by omega); omega) (fun S2 M2 hR2 hT2 => ?_)
  refine gz_istore gd_L_law_331 (Nat.le_of_ble_eq_true rfl) rfl ?_
  refine gz_aload_n gd_L_law_333 rfl rfl (gz_isr.r _) ?_
  refine gz_virtual0 gd_L_law_334 hR2.1 rfl rfl gs_L_law_334 (Nat.le_of_ble_eq_true rfl) (Nat.le_of_ble_eq_true rfl) ?_
  refine m_thr hR2 hT2 (fun S3 M3 hR3 hT3 => ?_)
  refine gz_iload gd_L_law_337 rfl ?_
  refine gz_icmp_eq (tgt := 344) gd_L_law_339 (by decide) (fun h339 => ?_) (fun h339 => ?_)
  ·
    refine gz_iload gd_L_law_344 rfl ?_
    refine gz_if_ne (tgt := 361) gd_L_law_346 (by decide) (fun h346 => ?_) (fun h346 => ?_)
    ·
      refine gz_goto (tgt := 1511) gd_L_law_361 (by decide) ?_
      exact k _ _ _ _ _ _ _ _ _ _ _ _ _ hR3.self (hC1.side (hR1.sd hO1) (fun j hj => hR3.2.2.2 j (by omega))) hT3 (hV.version (by omega)) ((hR3.2.2.2 2 (by omega)).trans h2b) ((hR3.2.2.2 113 (by omega)).trans hO1)
    ·
      have hA := hA1 h346
      have hO3 := (hR3.2.2.2 113 (by omega)).trans hO1
      refine gz_aload_n gd_L_law_349 rfl rfl (gz_isr.r _) ?_
      refine gz_iconst (v := 0) gd_L_law_350 (by decide) ?_
      refine gz_laload (i := 0) gd_L_law_351 rfl hO3 rfl (by decide) (by decide) hA ?_
      refine gz_iload gd_L_law_352 rfl ?_
      refine gz_i2l gd_L_law_354 ?_
      refine gz_lcmp gd_L_law_355 ?_
      refine gz_if_eq (tgt := 361) gd_L_law_356 (by decide) (fun h356 => ?_) (fun h356 => ?_)
      ·
        refine gz_goto (tgt := 1511) gd_L_law_361 (by decide) ?_
        exact k _ _ _ _ _ _ _ _ _ _ _ _ _ hR3.self (hC1.side (hR1.sd hO1) (fun j hj => hR3.2.2.2 j (by omega))) hT3 (hV.version (by omega)) ((hR3.2.2.2 2 (by omega)).trans h2b) ((hR3.2.2.2 113 (by omega)).trans hO1)
      ·
        exact absurd ((lg_cmp_eq _ _).2 rfl) h356
  ·
    exact absurd rfl h339

theorem lc_hang {l : Launch} {D : gzD} {K : gzK} {M : gzM} {n nc ns : Nat} {b : Nat} {v : gV} {g : gG} {T : CT} {q : Nat} {S : gS} {L : gL} {f : Nat → Value} {len i : Nat} {sc : Nat → Int32} {a5 a6 a7 : Option Value} (hR : RF M S L M) (hC : RC M b v g T M n nc ns) (hT : Rel 12 true S T) (hV : IV T q) (hq : q < 512) (hD : RM D) (hb : b + 1000 ≤ 300000) (hls : l.stackTraces = false) (h2 : M 2 = some (.inl (0, len, fun j => .int (sc j)))) (hO : M 113 = some (.inl (2, 1, f))) (hi : i + 5 ≤ len) (hl : len ≤ 2560) (k : LK l D K len sc i (b + 560) (q + 1)) : GZ l P1 D F_L_law K 364 [some (.ref 2), some (.ref 3), some (.ref 83), some (.ref 113), some (.int (nI i)), a5, a6, a7] [] M n nc ns := by
  refine gz_aload_n gd_L_law_364 rfl rfl (gz_isr.r _) ?_
  refine gz_aload_n gd_L_law_365 rfl rfl (gz_isr.r _) ?_
  refine gz_iload gd_L_law_366 rfl ?_
  refine gz_iconst (v := 1) gd_L_law_368 (by decide) ?_
  refine gq_iadd (z := nI (i + 1)) gd_L_law_369 (nI_add i 1) ?_
  refine gz_iaload (i := i + 1) gd_L_law_370 rfl h2 rfl (by omega) (by omega) rfl ?_
  refine gz_aload_n gd_L_law_371 rfl rfl (gz_isr.r _) ?_
  refine gz_iload gd_L_law_372 rfl ?_
  refine gz_iconst (v := 2) gd_L_law_374 (by decide) ?_
  refine gq_iadd (z := nI (i + 2)) gd_L_law_375 (nI_add i 2) ?_
  refine gz_iaload (i := i + 2) gd_L_law_376 rfl h2 rfl (by omega) (by omega) rfl ?_
  refine gz_aload_n gd_L_law_377 rfl rfl (gz_isr.r _) ?_
  refine gz_static4 gd_L_law_378 gs_L_law_378 (Nat.le_of_ble_eq_true rfl) (Nat.le_of_ble_eq_true rfl) ?_
  refine lw_hang hC hD hb hls hV hq (hR.sd hO) hO (fun M1 n1 nc1 ns1 hW => ?_)
  obtain ⟨v1, g1, f1, hC1, hF1, h21, hO1, hA1⟩ := hW
  have hR1 := hR.mv hF1
  have h2b := h21.trans h2
  refine gz_istore gd_L_law_381 (Nat.le_of_ble_eq_true rfl) rfl ?_
  refine gz_aload_n gd_L_law_383 rfl rfl (gz_isr.r _) ?_
  refine gz_aload_n gd_L_law_384 rfl rfl (gz_isr.r _) ?_
  refine gz_iload gd_L_law_385 rfl ?_
  refine gz_iconst (v := 1) gd_L_law_387 (by decide) ?_
  refine gq_iadd (z := nI (i + 1)) gd_L_law_388 (nI_add i 1) ?_
  refine gz_iaload (i := i + 1) gd_L_law_389 rfl h2b rfl (by omega) (by omega) rfl ?_
  refine gz_aload_n gd_L_law_390 rfl rfl (gz_isr.r _) ?_
  refine gz_iload gd_L_law_391 rfl ?_
  refine gz_iconst (v := 2) gd_L_law_393 (by decide) ?_
  refine gq_iadd (z := nI (i + 2)) gd_L_law_394 (nI_add i 2) ?_
  refine gz_iaload (i := i + 2) gd_L_law_395 rfl h2b rfl (by omega) (by omega) rfl ?_
  refine gz_virtual2 gd_L_law_396 hR1.1 rfl rfl gs_L_law_396 (Nat.le_of_ble_eq_true rfl) (Nat.le_of_ble_eq_true rfl) ?_
  refine m_hang hR1 hT hV.ji (by have := hV.pb (by omega); omega) (fun o u hu => ⟨_, hV.it.und hV.ji.1 o u hu⟩) (fun S2 M2 hR2 hT2 => ?_)
  refine gz_istore gd_L_law_399 (Nat.le_of_ble_eq_true rfl) rfl ?_
  refine gz_aload_n gd_L_law_401 rfl rfl (gz_isr.r _) ?_
  refine gz_virtual0 gd_L_law_402 hR2.1 rfl rfl gs_L_law_402 (Nat.le_of_ble_eq_true rfl) (Nat.le_of_ble_eq_true rfl) ?_
  refine m_thr hR2 hT2 (fun S3 M3 hR3 hT3 => ?_)
  refine gz_iload gd_L_law_405 rfl ?_
  refine gz_icmp_eq (tgt := 412) gd_L_law_407 (by decide) (fun h407 => ?_) (fun h407 => ?_)
  ·
    refine gz_iload gd_L_law_412 rfl ?_
    refine gz_if_ne (tgt := 429) gd_L_law_414 (by decide) (fun h414 => ?_) (fun h414 => ?_)
    ·
      refine gz_goto (tgt := 1511) gd_L_law_429 (by decide) ?_
      exact k _ _ _ _ _ _ _ _ _ _ _ _ _ hR3.self (hC1.side (hR1.sd hO1) (fun j hj => hR3.2.2.2 j (by omega))) hT3 (hV.hang (by omega)) ((hR3.2.2.2 2 (by omega)).trans h2b) ((hR3.2.2.2 113 (by omega)).trans hO1)
    ·
      have hA := hA1 h414
      have hO3 := (hR3.2.2.2 113 (by omega)).trans hO1
      refine gz_aload_n gd_L_law_417 rfl rfl (gz_isr.r _) ?_
      refine gz_iconst (v := 0) gd_L_law_418 (by decide) ?_
      refine gz_laload (i := 0) gd_L_law_419 rfl hO3 rfl (by decide) (by decide) hA ?_
      refine gz_iload gd_L_law_420 rfl ?_
      refine gz_i2l gd_L_law_422 ?_
      refine gz_lcmp gd_L_law_423 ?_
      refine gz_if_eq (tgt := 429) gd_L_law_424 (by decide) (fun h424 => ?_) (fun h424 => ?_)
      ·
        refine gz_goto (tgt := 1511) gd_L_law_429 (by decide) ?_
        exact k _ _ _ _ _ _ _ _ _ _ _ _ _ hR3.self (hC1.side (hR1.sd hO1) (fun j hj => hR3.2.2.2 j (by omega))) hT3 (hV.hang (by omega)) ((hR3.2.2.2 2 (by omega)).trans h2b) ((hR3.2.2.2 113 (by omega)).trans hO1)
      ·
        exact absurd ((lg_cmp_eq _ _).2 rfl) h424
  ·
    exact absurd rfl h407

theorem lc_fail {l : Launch} {D : gzD} {K : gzK} {M : gzM} {n nc ns : Nat} {b : Nat} {v : gV} {g : gG} {T : CT} {q : Nat} {S : gS} {L : gL} {f : Nat → Value} {len i : Nat} {sc : Nat → Int32} {a5 a6 a7 : Option Value} (hR : RF M S L M) (hC : RC M b v g T M n nc ns) (hT : Rel 12 true S T) (hV : IV T q) (hq : q < 512) (hD : RM D) (hb : b + 1000 ≤ 300000) (hls : l.stackTraces = false) (h2 : M 2 = some (.inl (0, len, fun j => .int (sc j)))) (hO : M 113 = some (.inl (2, 1, f))) (hi : i + 5 ≤ len) (hl : len ≤ 2560) (k : LK l D K len sc i (b + 560) (q + 1)) : GZ l P1 D F_L_law K 432 [some (.ref 2), some (.ref 3), some (.ref 83), some (.ref 113), some (.int (nI i)), a5, a6, a7] [] M n nc ns := by
  refine gz_aload_n gd_L_law_432 rfl rfl (gz_isr.r _) ?_
  refine gz_aload_n gd_L_law_433 rfl rfl (gz_isr.r _) ?_
  refine gz_iload gd_L_law_434 rfl ?_
  refine gz_iconst (v := 1) gd_L_law_436 (by decide) ?_
  refine gq_iadd (z := nI (i + 1)) gd_L_law_437 (nI_add i 1) ?_
  refine gz_iaload (i := i + 1) gd_L_law_438 rfl h2 rfl (by omega) (by omega) rfl ?_
  refine gz_aload_n gd_L_law_439 rfl rfl (gz_isr.r _) ?_
  refine gz_static3 gd_L_law_440 gs_L_law_440 (Nat.le_of_ble_eq_true rfl) (Nat.le_of_ble_eq_true rfl) ?_
  refine lw_fail hC hD hb hls hV hq (hR.sd hO) hO (fun M1 n1 nc1 ns1 hW => ?_)
  obtain ⟨v1, g1, f1, hC1, hF1, h21, hO1, hA1⟩ := hW
  have hR1 := hR.mv hF1
  have h2b := h21.trans h2
  refine gz_istore gd_L_law_443 (Nat.le_of_ble_eq_true rfl) rfl ?_
  refine gz_aload_n gd_L_law_445 rfl rfl (gz_isr.r _) ?_
  refine gz_aload_n gd_L_law_446 rfl rfl (gz_isr.r _) ?_
  refine gz_iload gd_L_law_447 rfl ?_
  refine gz_iconst (v := 1) gd_L_law_449 (by decide) ?_
  refine gq_iadd (z := nI (i + 1)) gd_L_law_450 (nI_add i 1) ?_
  refine gz_iaload (i := i + 1) gd_L_law_451 rfl h2b rfl (by omega) (by omega) rfl ?_
  refine gz_virtual1 gd_L_law_452 hR1.1 rfl rfl gs_L_law_452 (Nat.le_of_ble_eq_true rfl) (Nat.le_of_ble_eq_true rfl) ?_
  refine m_fail hR1 hT hV.ji (by have := hV.pb (by omega); omega) (fun S2 M2 hR2 hT2 => ?_)
  refine gz_istore gd_L_law_455 (Nat.le_of_ble_eq_true rfl) rfl ?_
  refine gz_aload_n gd_L_law_457 rfl rfl (gz_isr.r _) ?_
  refine gz_virtual0 gd_L_law_458 hR2.1 rfl rfl gs_L_law_458 (Nat.le_of_ble_eq_true rfl) (Nat.le_of_ble_eq_true rfl) ?_
  refine m_thr hR2 hT2 (fun S3 M3 hR3 hT3 => ?_)
  refine gz_iload gd_L_law_461 rfl ?_
  refine gz_icmp_eq (tgt := 468) gd_L_law_463 (by decide) (fun h463 => ?_) (fun h463 => ?_)
  ·
    refine gz_iload gd_L_law_468 rfl ?_
    refine gz_if_ne (tgt := 485) gd_L_law_470 (by decide) (fun h470 => ?_) (fun h470 => ?_)
    ·
      refine gz_goto (tgt := 1511) gd_L_law_485 (by decide) ?_
      exact k _ _ _ _ _ _ _ _ _ _ _ _ _ hR3.self (hC1.side (hR1.sd hO1) (fun j hj => hR3.2.2.2 j (by omega))) hT3 (hV.fail (by omega)) ((hR3.2.2.2 2 (by omega)).trans h2b) ((hR3.2.2.2 113 (by omega)).trans hO1)
    ·
      have hA := hA1 h470
      have hO3 := (hR3.2.2.2 113 (by omega)).trans hO1
      refine gz_aload_n gd_L_law_473 rfl rfl (gz_isr.r _) ?_
      refine gz_iconst (v := 0) gd_L_law_474 (by decide) ?_
      refine gz_laload (i := 0) gd_L_law_475 rfl hO3 rfl (by decide) (by decide) hA ?_
      refine gz_iload gd_L_law_476 rfl ?_
      refine gz_i2l gd_L_law_478 ?_
      refine gz_lcmp gd_L_law_479 ?_
      refine gz_if_eq (tgt := 485) gd_L_law_480 (by decide) (fun h480 => ?_) (fun h480 => ?_)
      ·
        refine gz_goto (tgt := 1511) gd_L_law_485 (by decide) ?_
        exact k _ _ _ _ _ _ _ _ _ _ _ _ _ hR3.self (hC1.side (hR1.sd hO1) (fun j hj => hR3.2.2.2 j (by omega))) hT3 (hV.fail (by omega)) ((hR3.2.2.2 2 (by omega)).trans h2b) ((hR3.2.2.2 113 (by omega)).trans hO1)
      ·
        exact absurd ((lg_cmp_eq _ _).2 rfl) h480
  ·
    exact absurd rfl h463

theorem lc_revive {l : Launch} {D : gzD} {K : gzK} {M : gzM} {n nc ns : Nat} {b : Nat} {v : gV} {g : gG} {T : CT} {q : Nat} {S : gS} {L : gL} {f : Nat → Value} {len i : Nat} {sc : Nat → Int32} {a5 a6 a7 : Option Value} (hR : RF M S L M) (hC : RC M b v g T M n nc ns) (hT : Rel 12 true S T) (hV : IV T q) (hq : q < 512) (hD : RM D) (hb : b + 1000 ≤ 300000) (hls : l.stackTraces = false) (h2 : M 2 = some (.inl (0, len, fun j => .int (sc j)))) (hO : M 113 = some (.inl (2, 1, f))) (hi : i + 5 ≤ len) (hl : len ≤ 2560) (k : LK l D K len sc i (b + 560) (q + 1)) : GZ l P1 D F_L_law K 488 [some (.ref 2), some (.ref 3), some (.ref 83), some (.ref 113), some (.int (nI i)), a5, a6, a7] [] M n nc ns := by
  refine gz_aload_n gd_L_law_488 rfl rfl (gz_isr.r _) ?_
  refine gz_aload_n gd_L_law_489 rfl rfl (gz_isr.r _) ?_
  refine gz_iload gd_L_law_490 rfl ?_
  refine gz_iconst (v := 1) gd_L_law_492 (by decide) ?_
  refine gq_iadd (z := nI (i + 1)) gd_L_law_493 (nI_add i 1) ?_
  refine gz_iaload (i := i + 1) gd_L_law_494 rfl h2 rfl (by omega) (by omega) rfl ?_
  refine gz_aload_n gd_L_law_495 rfl rfl (gz_isr.r _) ?_
  refine gz_static3 gd_L_law_496 gs_L_law_496 (Nat.le_of_ble_eq_true rfl) (Nat.le_of_ble_eq_true rfl) ?_
  refine lw_revive hC hD hb hls hV hq (hR.sd hO) hO (fun M1 n1 nc1 ns1 hW => ?_)
  obtain ⟨v1, g1, f1, hC1, hF1, h21, hO1, hA1⟩ := hW
  have hR1 := hR.mv hF1
  have h2b := h21.trans h2
  refine gz_istore gd_L_law_499 (Nat.le_of_ble_eq_true rfl) rfl ?_
  refine gz_aload_n gd_L_law_501 rfl rfl (gz_isr.r _) ?_
  refine gz_aload_n gd_L_law_502 rfl rfl (gz_isr.r _) ?_
  refine gz_iload gd_L_law_503 rfl ?_
  refine gz_iconst (v := 1) gd_L_law_505 (by decide) ?_
  refine gq_iadd (z := nI (i + 1)) gd_L_law_506 (nI_add i 1) ?_
  refine gz_iaload (i := i + 1) gd_L_law_507 rfl h2b rfl (by omega) (by omega) rfl ?_
  refine gz_virtual1 gd_L_law_508 hR1.1 rfl rfl gs_L_law_508 (Nat.le_of_ble_eq_true rfl) (Nat.le_of_ble_eq_true rfl) ?_
  refine m_revive hR1 hT hV.ji (by have := hV.pb (by omega); omega) (fun S2 M2 hR2 hT2 => ?_)
  refine gz_istore gd_L_law_511 (Nat.le_of_ble_eq_true rfl) rfl ?_
  refine gz_aload_n gd_L_law_513 rfl rfl (gz_isr.r _) ?_
  refine gz_virtual0 gd_L_law_514 hR2.1 rfl rfl gs_L_law_514 (Nat.le_of_ble_eq_true rfl) (Nat.le_of_ble_eq_true rfl) ?_
  refine m_thr hR2 hT2 (fun S3 M3 hR3 hT3 => ?_)
  refine gz_iload gd_L_law_517 rfl ?_
  refine gz_icmp_eq (tgt := 524) gd_L_law_519 (by decide) (fun h519 => ?_) (fun h519 => ?_)
  ·
    refine gz_iload gd_L_law_524 rfl ?_
    refine gz_if_ne (tgt := 541) gd_L_law_526 (by decide) (fun h526 => ?_) (fun h526 => ?_)
    ·
      refine gz_goto (tgt := 1511) gd_L_law_541 (by decide) ?_
      exact k _ _ _ _ _ _ _ _ _ _ _ _ _ hR3.self (hC1.side (hR1.sd hO1) (fun j hj => hR3.2.2.2 j (by omega))) hT3 (hV.revive (by omega)) ((hR3.2.2.2 2 (by omega)).trans h2b) ((hR3.2.2.2 113 (by omega)).trans hO1)
    ·
      have hA := hA1 h526
      have hO3 := (hR3.2.2.2 113 (by omega)).trans hO1
      refine gz_aload_n gd_L_law_529 rfl rfl (gz_isr.r _) ?_
      refine gz_iconst (v := 0) gd_L_law_530 (by decide) ?_
      refine gz_laload (i := 0) gd_L_law_531 rfl hO3 rfl (by decide) (by decide) hA ?_
      refine gz_iload gd_L_law_532 rfl ?_
      refine gz_i2l gd_L_law_534 ?_
      refine gz_lcmp gd_L_law_535 ?_
      refine gz_if_eq (tgt := 541) gd_L_law_536 (by decide) (fun h536 => ?_) (fun h536 => ?_)
      ·
        refine gz_goto (tgt := 1511) gd_L_law_541 (by decide) ?_
        exact k _ _ _ _ _ _ _ _ _ _ _ _ _ hR3.self (hC1.side (hR1.sd hO1) (fun j hj => hR3.2.2.2 j (by omega))) hT3 (hV.revive (by omega)) ((hR3.2.2.2 2 (by omega)).trans h2b) ((hR3.2.2.2 113 (by omega)).trans hO1)
      ·
        exact absurd ((lg_cmp_eq _ _).2 rfl) h536
  ·
    exact absurd rfl h519

theorem lc_move {l : Launch} {D : gzD} {K : gzK} {M : gzM} {n nc ns : Nat} {b : Nat} {v : gV} {g : gG} {T : CT} {q : Nat} {S : gS} {L : gL} {f : Nat → Value} {len i : Nat} {sc : Nat → Int32} {a5 a6 a7 : Option Value} (hR : RF M S L M) (hC : RC M b v g T M n nc ns) (hT : Rel 12 true S T) (hV : IV T q) (hq : q < 512) (hD : RM D) (hb : b + 1000 ≤ 300000) (hls : l.stackTraces = false) (h2 : M 2 = some (.inl (0, len, fun j => .int (sc j)))) (hO : M 113 = some (.inl (2, 1, f))) (hi : i + 5 ≤ len) (hl : len ≤ 2560) (k : LK l D K len sc i (b + 560) (q + 1)) : GZ l P1 D F_L_law K 544 [some (.ref 2), some (.ref 3), some (.ref 83), some (.ref 113), some (.int (nI i)), a5, a6, a7] [] M n nc ns := by
  refine gz_aload_n gd_L_law_544 rfl rfl (gz_isr.r _) ?_
  refine gz_aload_n gd_L_law_545 rfl rfl (gz_isr.r _) ?_
  refine gz_iload gd_L_law_546 rfl ?_
  refine gz_iconst (v := 1) gd_L_law_548 (by decide) ?_
  refine gq_iadd (z := nI (i + 1)) gd_L_law_549 (nI_add i 1) ?_
  refine gz_iaload (i := i + 1) gd_L_law_550 rfl h2 rfl (by omega) (by omega) rfl ?_
  refine gz_aload_n gd_L_law_551 rfl rfl (gz_isr.r _) ?_
  refine gz_iload gd_L_law_552 rfl ?_
  refine gz_iconst (v := 2) gd_L_law_554 (by decide) ?_
  refine gq_iadd (z := nI (i + 2)) gd_L_law_555 (nI_add i 2) ?_
  refine gz_iaload (i := i + 2) gd_L_law_556 rfl h2 rfl (by omega) (by omega) rfl ?_
  refine gz_aload_n gd_L_law_557 rfl rfl (gz_isr.r _) ?_
  refine gz_static4 gd_L_law_558 gs_L_law_558 (Nat.le_of_ble_eq_true rfl) (Nat.le_of_ble_eq_true rfl) ?_
  refine lw_move hC hD hb hls hV hq (hR.sd hO) hO (fun M1 n1 nc1 ns1 hW => ?_)
  obtain ⟨v1, g1, f1, hC1, hF1, h21, hO1, hA1⟩ := hW
  have hR1 := hR.mv hF1
  have h2b := h21.trans h2
  refine gz_istore gd_L_law_561 (Nat.le_of_ble_eq_true rfl) rfl ?_
  refine gz_aload_n gd_L_law_563 rfl rfl (gz_isr.r _) ?_
  refine gz_aload_n gd_L_law_564 rfl rfl (gz_isr.r _) ?_
  refine gz_iload gd_L_law_565 rfl ?_
  refine gz_iconst (v := 1) gd_L_law_567 (by decide) ?_
  refine gq_iadd (z := nI (i + 1)) gd_L_law_568 (nI_add i 1) ?_
  refine gz_iaload (i := i + 1) gd_L_law_569 rfl h2b rfl (by omega) (by omega) rfl ?_
  refine gz_aload_n gd_L_law_570 rfl rfl (gz_isr.r _) ?_
  refine gz_iload gd_L_law_571 rfl ?_
  refine gz_iconst (v := 2) gd_L_law_573 (by decide) ?_
  refine gq_iadd (z := nI (i + 2)) gd_L_law_574 (nI_add i 2) ?_
  refine gz_iaload (i := i + 2) gd_L_law_575 rfl h2b rfl (by omega) (by omega) rfl ?_
  refine gz_virtual2 gd_L_law_576 hR1.1 rfl rfl gs_L_law_576 (Nat.le_of_ble_eq_true rfl) (Nat.le_of_ble_eq_true rfl) ?_
  refine m_move hR1 hT hV.ji (by have := hV.pb (by omega); omega) (fun S2 M2 hR2 hT2 => ?_)
  refine gz_istore gd_L_law_579 (Nat.le_of_ble_eq_true rfl) rfl ?_
  refine gz_aload_n gd_L_law_581 rfl rfl (gz_isr.r _) ?_
  refine gz_virtual0 gd_L_law_582 hR2.1 rfl rfl gs_L_law_582 (Nat.le_of_ble_eq_true rfl) (Nat.le_of_ble_eq_true rfl) ?_
  refine m_thr hR2 hT2 (fun S3 M3 hR3 hT3 => ?_)
  refine gz_iload gd_L_law_585 rfl ?_
  refine gz_icmp_eq (tgt := 592) gd_L_law_587 (by decide) (fun h587 => ?_) (fun h587 => ?_)
  ·
    refine gz_iload gd_L_law_592 rfl ?_
    refine gz_if_ne (tgt := 616) gd_L_law_594 (by decide) (fun h594 => ?_) (fun h594 => ?_)
    ·
      refine gz_goto (tgt := 1511) gd_L_law_616 (by decide) ?_
      exact k _ _ _ _ _ _ _ _ _ _ _ _ _ hR3.self (hC1.side (hR1.sd hO1) (fun j hj => hR3.2.2.2 j (by omega))) hT3 (hV.move (by omega)) ((hR3.2.2.2 2 (by omega)).trans h2b) ((hR3.2.2.2 113 (by omega)).trans hO1)
    ·
      have hA := hA1 h594
      have hO3 := (hR3.2.2.2 113 (by omega)).trans hO1
      refine gz_aload_n gd_L_law_597 rfl rfl (gz_isr.r _) ?_
      refine gz_iconst (v := 0) gd_L_law_598 (by decide) ?_
      refine gz_laload (i := 0) gd_L_law_599 rfl hO3 rfl (by decide) (by decide) hA ?_
      refine gz_iload gd_L_law_600 rfl ?_
      refine gz_if_eq (tgt := 609) gd_L_law_602 (by decide) (fun h602 => ?_) (fun h602 => ?_)
      ·
        replace h602 := bI_0.1 h602
        refine gz_lconst (v := 0) gd_L_law_609 (by decide) ?_
        refine gz_lcmp gd_L_law_610 ?_
        refine gz_if_eq (tgt := 616) gd_L_law_611 (by decide) (fun h611 => ?_) (fun h611 => ?_)
        ·
          refine gz_goto (tgt := 1511) gd_L_law_616 (by decide) ?_
          exact k _ _ _ _ _ _ _ _ _ _ _ _ _ hR3.self (hC1.side (hR1.sd hO1) (fun j hj => hR3.2.2.2 j (by omega))) hT3 (hV.move (by omega)) ((hR3.2.2.2 2 (by omega)).trans h2b) ((hR3.2.2.2 113 (by omega)).trans hO1)
        ·
          exact absurd ((lg_cmp_eq _ _).2 (if_neg (bf h602))) h611
      ·
        replace h602 := bI_n.1 h602
        refine gz_lconst (v := 1) gd_L_law_605 (by decide) ?_
        refine gz_goto (tgt := 610) gd_L_law_606 (by decide) ?_
        refine gz_lcmp gd_L_law_610 ?_
        refine gz_if_eq (tgt := 616) gd_L_law_611 (by decide) (fun h611 => ?_) (fun h611 => ?_)
        ·
          refine gz_goto (tgt := 1511) gd_L_law_616 (by decide) ?_
          exact k _ _ _ _ _ _ _ _ _ _ _ _ _ hR3.self (hC1.side (hR1.sd hO1) (fun j hj => hR3.2.2.2 j (by omega))) hT3 (hV.move (by omega)) ((hR3.2.2.2 2 (by omega)).trans h2b) ((hR3.2.2.2 113 (by omega)).trans hO1)
        ·
          exact absurd ((lg_cmp_eq _ _).2 (if_pos h602)) h611
  ·
    exact absurd rfl h587

theorem lc_deliver {l : Launch} {D : gzD} {K : gzK} {M : gzM} {n nc ns : Nat} {b : Nat} {v : gV} {g : gG} {T : CT} {q : Nat} {S : gS} {L : gL} {f : Nat → Value} {len i : Nat} {sc : Nat → Int32} {a5 a6 a7 : Option Value} (hR : RF M S L M) (hC : RC M b v g T M n nc ns) (hT : Rel 12 true S T) (hV : IV T q) (hq : q < 512) (hD : RM D) (hb : b + 1000 ≤ 300000) (hls : l.stackTraces = false) (h2 : M 2 = some (.inl (0, len, fun j => .int (sc j)))) (hO : M 113 = some (.inl (2, 1, f))) (hi : i + 5 ≤ len) (hl : len ≤ 2560) (k : LK l D K len sc i (b + 560) (q + 1)) : GZ l P1 D F_L_law K 619 [some (.ref 2), some (.ref 3), some (.ref 83), some (.ref 113), some (.int (nI i)), a5, a6, a7] [] M n nc ns := by
  refine gz_aload_n gd_L_law_619 rfl rfl (gz_isr.r _) ?_
  refine gz_aload_n gd_L_law_620 rfl rfl (gz_isr.r _) ?_
  refine gz_iload gd_L_law_621 rfl ?_
  refine gz_iconst (v := 1) gd_L_law_623 (by decide) ?_
  refine gq_iadd (z := nI (i + 1)) gd_L_law_624 (nI_add i 1) ?_
  refine gz_iaload (i := i + 1) gd_L_law_625 rfl h2 rfl (by omega) (by omega) rfl ?_
  refine gz_aload_n gd_L_law_626 rfl rfl (gz_isr.r _) ?_
  refine gz_static3 gd_L_law_627 gs_L_law_627 (Nat.le_of_ble_eq_true rfl) (Nat.le_of_ble_eq_true rfl) ?_
  refine lw_deliver hC hD hb hls hV hq (hR.sd hO) hO (fun M1 n1 nc1 ns1 hW => ?_)
  obtain ⟨v1, g1, f1, hC1, hF1, h21, hO1, hA1⟩ := hW
  have hR1 := hR.mv hF1
  have h2b := h21.trans h2
  refine gz_istore gd_L_law_630 (Nat.le_of_ble_eq_true rfl) rfl ?_
  refine gz_aload_n gd_L_law_632 rfl rfl (gz_isr.r _) ?_
  refine gz_aload_n gd_L_law_633 rfl rfl (gz_isr.r _) ?_
  refine gz_iload gd_L_law_634 rfl ?_
  refine gz_iconst (v := 1) gd_L_law_636 (by decide) ?_
  refine gq_iadd (z := nI (i + 1)) gd_L_law_637 (nI_add i 1) ?_
  refine gz_iaload (i := i + 1) gd_L_law_638 rfl h2b rfl (by omega) (by omega) rfl ?_
  refine gz_virtual1 gd_L_law_639 hR1.1 rfl rfl gs_L_law_639 (Nat.le_of_ble_eq_true rfl) (Nat.le_of_ble_eq_true rfl) ?_
  refine m_deliver hR1 hT hV.ji (by have := hV.pb (by omega); omega) (fun {c} => by have := hV.ww c; omega) (fun S2 M2 hR2 hT2 => ?_)
  refine gz_istore gd_L_law_642 (Nat.le_of_ble_eq_true rfl) rfl ?_
  refine gz_aload_n gd_L_law_644 rfl rfl (gz_isr.r _) ?_
  refine gz_virtual0 gd_L_law_645 hR2.1 rfl rfl gs_L_law_645 (Nat.le_of_ble_eq_true rfl) (Nat.le_of_ble_eq_true rfl) ?_
  refine m_thr hR2 hT2 (fun S3 M3 hR3 hT3 => ?_)
  refine gz_iload gd_L_law_648 rfl ?_
  refine gz_icmp_eq (tgt := 655) gd_L_law_650 (by decide) (fun h650 => ?_) (fun h650 => ?_)
  ·
    refine gz_iload gd_L_law_655 rfl ?_
    refine gz_if_ne (tgt := 679) gd_L_law_657 (by decide) (fun h657 => ?_) (fun h657 => ?_)
    ·
      refine gz_goto (tgt := 1511) gd_L_law_679 (by decide) ?_
      exact k _ _ _ _ _ _ _ _ _ _ _ _ _ hR3.self (hC1.side (hR1.sd hO1) (fun j hj => hR3.2.2.2 j (by omega))) hT3 (hV.deliver hq) ((hR3.2.2.2 2 (by omega)).trans h2b) ((hR3.2.2.2 113 (by omega)).trans hO1)
    ·
      have hA := hA1 h657
      have hO3 := (hR3.2.2.2 113 (by omega)).trans hO1
      refine gz_aload_n gd_L_law_660 rfl rfl (gz_isr.r _) ?_
      refine gz_iconst (v := 0) gd_L_law_661 (by decide) ?_
      refine gz_laload (i := 0) gd_L_law_662 rfl hO3 rfl (by decide) (by decide) hA ?_
      refine gz_iload gd_L_law_663 rfl ?_
      refine gz_if_eq (tgt := 672) gd_L_law_665 (by decide) (fun h665 => ?_) (fun h665 => ?_)
      ·
        replace h665 := bI_0.1 h665
        refine gz_lconst (v := 0) gd_L_law_672 (by decide) ?_
        refine gz_lcmp gd_L_law_673 ?_
        refine gz_if_eq (tgt := 679) gd_L_law_674 (by decide) (fun h674 => ?_) (fun h674 => ?_)
        ·
          refine gz_goto (tgt := 1511) gd_L_law_679 (by decide) ?_
          exact k _ _ _ _ _ _ _ _ _ _ _ _ _ hR3.self (hC1.side (hR1.sd hO1) (fun j hj => hR3.2.2.2 j (by omega))) hT3 (hV.deliver hq) ((hR3.2.2.2 2 (by omega)).trans h2b) ((hR3.2.2.2 113 (by omega)).trans hO1)
        ·
          exact absurd ((lg_cmp_eq _ _).2 (if_neg (bf h665))) h674
      ·
        replace h665 := bI_n.1 h665
        refine gz_lconst (v := 1) gd_L_law_668 (by decide) ?_
        refine gz_goto (tgt := 673) gd_L_law_669 (by decide) ?_
        refine gz_lcmp gd_L_law_673 ?_
        refine gz_if_eq (tgt := 679) gd_L_law_674 (by decide) (fun h674 => ?_) (fun h674 => ?_)
        ·
          refine gz_goto (tgt := 1511) gd_L_law_679 (by decide) ?_
          exact k _ _ _ _ _ _ _ _ _ _ _ _ _ hR3.self (hC1.side (hR1.sd hO1) (fun j hj => hR3.2.2.2 j (by omega))) hT3 (hV.deliver hq) ((hR3.2.2.2 2 (by omega)).trans h2b) ((hR3.2.2.2 113 (by omega)).trans hO1)
        ·
          exact absurd ((lg_cmp_eq _ _).2 (if_pos h665)) h674
  ·
    exact absurd rfl h650

theorem lc_drop {l : Launch} {D : gzD} {K : gzK} {M : gzM} {n nc ns : Nat} {b : Nat} {v : gV} {g : gG} {T : CT} {q : Nat} {S : gS} {L : gL} {f : Nat → Value} {len i : Nat} {sc : Nat → Int32} {a5 a6 a7 : Option Value} (hR : RF M S L M) (hC : RC M b v g T M n nc ns) (hT : Rel 12 true S T) (hV : IV T q) (hq : q < 512) (hD : RM D) (hb : b + 1000 ≤ 300000) (hls : l.stackTraces = false) (h2 : M 2 = some (.inl (0, len, fun j => .int (sc j)))) (hO : M 113 = some (.inl (2, 1, f))) (hi : i + 5 ≤ len) (hl : len ≤ 2560) (k : LK l D K len sc i (b + 560) (q + 1)) : GZ l P1 D F_L_law K 682 [some (.ref 2), some (.ref 3), some (.ref 83), some (.ref 113), some (.int (nI i)), a5, a6, a7] [] M n nc ns := by
  refine gz_aload_n gd_L_law_682 rfl rfl (gz_isr.r _) ?_
  refine gz_aload_n gd_L_law_683 rfl rfl (gz_isr.r _) ?_
  refine gz_iload gd_L_law_684 rfl ?_
  refine gz_iconst (v := 1) gd_L_law_686 (by decide) ?_
  refine gq_iadd (z := nI (i + 1)) gd_L_law_687 (nI_add i 1) ?_
  refine gz_iaload (i := i + 1) gd_L_law_688 rfl h2 rfl (by omega) (by omega) rfl ?_
  refine gz_aload_n gd_L_law_689 rfl rfl (gz_isr.r _) ?_
  refine gz_static3 gd_L_law_690 gs_L_law_690 (Nat.le_of_ble_eq_true rfl) (Nat.le_of_ble_eq_true rfl) ?_
  refine lw_drop hC hD hb hls hV hq (hR.sd hO) hO (fun M1 n1 nc1 ns1 hW => ?_)
  obtain ⟨v1, g1, f1, hC1, hF1, h21, hO1, hA1⟩ := hW
  have hR1 := hR.mv hF1
  have h2b := h21.trans h2
  refine gz_istore gd_L_law_693 (Nat.le_of_ble_eq_true rfl) rfl ?_
  refine gz_aload_n gd_L_law_695 rfl rfl (gz_isr.r _) ?_
  refine gz_aload_n gd_L_law_696 rfl rfl (gz_isr.r _) ?_
  refine gz_iload gd_L_law_697 rfl ?_
  refine gz_iconst (v := 1) gd_L_law_699 (by decide) ?_
  refine gq_iadd (z := nI (i + 1)) gd_L_law_700 (nI_add i 1) ?_
  refine gz_iaload (i := i + 1) gd_L_law_701 rfl h2b rfl (by omega) (by omega) rfl ?_
  refine gz_virtual1 gd_L_law_702 hR1.1 rfl rfl gs_L_law_702 (Nat.le_of_ble_eq_true rfl) (Nat.le_of_ble_eq_true rfl) ?_
  refine m_drop hR1 hT (by have := hV.ji.1.postN; omega) (fun S2 M2 hR2 hT2 => ?_)
  refine gz_istore gd_L_law_705 (Nat.le_of_ble_eq_true rfl) rfl ?_
  refine gz_aload_n gd_L_law_707 rfl rfl (gz_isr.r _) ?_
  refine gz_virtual0 gd_L_law_708 hR2.1 rfl rfl gs_L_law_708 (Nat.le_of_ble_eq_true rfl) (Nat.le_of_ble_eq_true rfl) ?_
  refine m_thr hR2 hT2 (fun S3 M3 hR3 hT3 => ?_)
  refine gz_iload gd_L_law_711 rfl ?_
  refine gz_icmp_eq (tgt := 718) gd_L_law_713 (by decide) (fun h713 => ?_) (fun h713 => ?_)
  ·
    refine gz_iload gd_L_law_718 rfl ?_
    refine gz_if_ne (tgt := 735) gd_L_law_720 (by decide) (fun h720 => ?_) (fun h720 => ?_)
    ·
      refine gz_goto (tgt := 1511) gd_L_law_735 (by decide) ?_
      exact k _ _ _ _ _ _ _ _ _ _ _ _ _ hR3.self (hC1.side (hR1.sd hO1) (fun j hj => hR3.2.2.2 j (by omega))) hT3 (hV.drop) ((hR3.2.2.2 2 (by omega)).trans h2b) ((hR3.2.2.2 113 (by omega)).trans hO1)
    ·
      have hA := hA1 h720
      have hO3 := (hR3.2.2.2 113 (by omega)).trans hO1
      refine gz_aload_n gd_L_law_723 rfl rfl (gz_isr.r _) ?_
      refine gz_iconst (v := 0) gd_L_law_724 (by decide) ?_
      refine gz_laload (i := 0) gd_L_law_725 rfl hO3 rfl (by decide) (by decide) hA ?_
      refine gz_iload gd_L_law_726 rfl ?_
      refine gz_i2l gd_L_law_728 ?_
      refine gz_lcmp gd_L_law_729 ?_
      refine gz_if_eq (tgt := 735) gd_L_law_730 (by decide) (fun h730 => ?_) (fun h730 => ?_)
      ·
        refine gz_goto (tgt := 1511) gd_L_law_735 (by decide) ?_
        exact k _ _ _ _ _ _ _ _ _ _ _ _ _ hR3.self (hC1.side (hR1.sd hO1) (fun j hj => hR3.2.2.2 j (by omega))) hT3 (hV.drop) ((hR3.2.2.2 2 (by omega)).trans h2b) ((hR3.2.2.2 113 (by omega)).trans hO1)
      ·
        exact absurd ((lg_cmp_eq _ _).2 rfl) h730
  ·
    exact absurd rfl h713

theorem lc_twin {l : Launch} {D : gzD} {K : gzK} {M : gzM} {n nc ns : Nat} {b : Nat} {v : gV} {g : gG} {T : CT} {q : Nat} {S : gS} {L : gL} {f : Nat → Value} {len i : Nat} {sc : Nat → Int32} {a5 a6 a7 : Option Value} (hR : RF M S L M) (hC : RC M b v g T M n nc ns) (hT : Rel 12 true S T) (hV : IV T q) (hq : q < 512) (hD : RM D) (hb : b + 1000 ≤ 300000) (hls : l.stackTraces = false) (h2 : M 2 = some (.inl (0, len, fun j => .int (sc j)))) (hO : M 113 = some (.inl (2, 1, f))) (hi : i + 5 ≤ len) (hl : len ≤ 2560) (k : LK l D K len sc i (b + 560) (q + 1)) : GZ l P1 D F_L_law K 738 [some (.ref 2), some (.ref 3), some (.ref 83), some (.ref 113), some (.int (nI i)), a5, a6, a7] [] M n nc ns := by
  refine gz_aload_n gd_L_law_738 rfl rfl (gz_isr.r _) ?_
  refine gz_aload_n gd_L_law_739 rfl rfl (gz_isr.r _) ?_
  refine gz_iload gd_L_law_740 rfl ?_
  refine gz_iconst (v := 1) gd_L_law_742 (by decide) ?_
  refine gq_iadd (z := nI (i + 1)) gd_L_law_743 (nI_add i 1) ?_
  refine gz_iaload (i := i + 1) gd_L_law_744 rfl h2 rfl (by omega) (by omega) rfl ?_
  refine gz_aload_n gd_L_law_745 rfl rfl (gz_isr.r _) ?_
  refine gz_static3 gd_L_law_746 gs_L_law_746 (Nat.le_of_ble_eq_true rfl) (Nat.le_of_ble_eq_true rfl) ?_
  refine lw_twin hC hD hb hls hV hq (hR.sd hO) hO (fun M1 n1 nc1 ns1 hW => ?_)
  obtain ⟨v1, g1, f1, hC1, hF1, h21, hO1, hA1⟩ := hW
  have hR1 := hR.mv hF1
  have h2b := h21.trans h2
  refine gz_istore gd_L_law_749 (Nat.le_of_ble_eq_true rfl) rfl ?_
  refine gz_aload_n gd_L_law_751 rfl rfl (gz_isr.r _) ?_
  refine gz_aload_n gd_L_law_752 rfl rfl (gz_isr.r _) ?_
  refine gz_iload gd_L_law_753 rfl ?_
  refine gz_iconst (v := 1) gd_L_law_755 (by decide) ?_
  refine gq_iadd (z := nI (i + 1)) gd_L_law_756 (nI_add i 1) ?_
  refine gz_iaload (i := i + 1) gd_L_law_757 rfl h2b rfl (by omega) (by omega) rfl ?_
  refine gz_virtual1 gd_L_law_758 hR1.1 rfl rfl gs_L_law_758 (Nat.le_of_ble_eq_true rfl) (Nat.le_of_ble_eq_true rfl) ?_
  refine m_twin hR1 hT (by have := hV.ji.1.postN; omega) (fun S2 M2 hR2 hT2 => ?_)
  refine gz_istore gd_L_law_761 (Nat.le_of_ble_eq_true rfl) rfl ?_
  refine gz_aload_n gd_L_law_763 rfl rfl (gz_isr.r _) ?_
  refine gz_virtual0 gd_L_law_764 hR2.1 rfl rfl gs_L_law_764 (Nat.le_of_ble_eq_true rfl) (Nat.le_of_ble_eq_true rfl) ?_
  refine m_thr hR2 hT2 (fun S3 M3 hR3 hT3 => ?_)
  refine gz_iload gd_L_law_767 rfl ?_
  refine gz_icmp_eq (tgt := 774) gd_L_law_769 (by decide) (fun h769 => ?_) (fun h769 => ?_)
  ·
    refine gz_iload gd_L_law_774 rfl ?_
    refine gz_if_ne (tgt := 791) gd_L_law_776 (by decide) (fun h776 => ?_) (fun h776 => ?_)
    ·
      refine gz_goto (tgt := 1511) gd_L_law_791 (by decide) ?_
      exact k _ _ _ _ _ _ _ _ _ _ _ _ _ hR3.self (hC1.side (hR1.sd hO1) (fun j hj => hR3.2.2.2 j (by omega))) hT3 (hV.twin) ((hR3.2.2.2 2 (by omega)).trans h2b) ((hR3.2.2.2 113 (by omega)).trans hO1)
    ·
      have hA := hA1 h776
      have hO3 := (hR3.2.2.2 113 (by omega)).trans hO1
      refine gz_aload_n gd_L_law_779 rfl rfl (gz_isr.r _) ?_
      refine gz_iconst (v := 0) gd_L_law_780 (by decide) ?_
      refine gz_laload (i := 0) gd_L_law_781 rfl hO3 rfl (by decide) (by decide) hA ?_
      refine gz_iload gd_L_law_782 rfl ?_
      refine gz_i2l gd_L_law_784 ?_
      refine gz_lcmp gd_L_law_785 ?_
      refine gz_if_eq (tgt := 791) gd_L_law_786 (by decide) (fun h786 => ?_) (fun h786 => ?_)
      ·
        refine gz_goto (tgt := 1511) gd_L_law_791 (by decide) ?_
        exact k _ _ _ _ _ _ _ _ _ _ _ _ _ hR3.self (hC1.side (hR1.sd hO1) (fun j hj => hR3.2.2.2 j (by omega))) hT3 (hV.twin) ((hR3.2.2.2 2 (by omega)).trans h2b) ((hR3.2.2.2 113 (by omega)).trans hO1)
      ·
        exact absurd ((lg_cmp_eq _ _).2 rfl) h786
  ·
    exact absurd rfl h769

theorem lc_resend {l : Launch} {D : gzD} {K : gzK} {M : gzM} {n nc ns : Nat} {b : Nat} {v : gV} {g : gG} {T : CT} {q : Nat} {S : gS} {L : gL} {f : Nat → Value} {len i : Nat} {sc : Nat → Int32} {a5 a6 a7 : Option Value} (hR : RF M S L M) (hC : RC M b v g T M n nc ns) (hT : Rel 12 true S T) (hV : IV T q) (hq : q < 512) (hD : RM D) (hb : b + 1000 ≤ 300000) (hls : l.stackTraces = false) (h2 : M 2 = some (.inl (0, len, fun j => .int (sc j)))) (hO : M 113 = some (.inl (2, 1, f))) (hi : i + 5 ≤ len) (hl : len ≤ 2560) (k : LK l D K len sc i (b + 560) (q + 1)) : GZ l P1 D F_L_law K 794 [some (.ref 2), some (.ref 3), some (.ref 83), some (.ref 113), some (.int (nI i)), a5, a6, a7] [] M n nc ns := by
  refine gz_aload_n gd_L_law_794 rfl rfl (gz_isr.r _) ?_
  refine gz_aload_n gd_L_law_795 rfl rfl (gz_isr.r _) ?_
  refine gz_iload gd_L_law_796 rfl ?_
  refine gz_iconst (v := 1) gd_L_law_798 (by decide) ?_
  refine gq_iadd (z := nI (i + 1)) gd_L_law_799 (nI_add i 1) ?_
  refine gz_iaload (i := i + 1) gd_L_law_800 rfl h2 rfl (by omega) (by omega) rfl ?_
  refine gz_aload_n gd_L_law_801 rfl rfl (gz_isr.r _) ?_
  refine gz_static3 gd_L_law_802 gs_L_law_802 (Nat.le_of_ble_eq_true rfl) (Nat.le_of_ble_eq_true rfl) ?_
  refine lw_resend hC hD hb hls hV hq (hR.sd hO) hO (fun M1 n1 nc1 ns1 hW => ?_)
  obtain ⟨v1, g1, f1, hC1, hF1, h21, hO1, hA1⟩ := hW
  have hR1 := hR.mv hF1
  have h2b := h21.trans h2
  refine gz_istore gd_L_law_805 (Nat.le_of_ble_eq_true rfl) rfl ?_
  refine gz_aload_n gd_L_law_807 rfl rfl (gz_isr.r _) ?_
  refine gz_aload_n gd_L_law_808 rfl rfl (gz_isr.r _) ?_
  refine gz_iload gd_L_law_809 rfl ?_
  refine gz_iconst (v := 1) gd_L_law_811 (by decide) ?_
  refine gq_iadd (z := nI (i + 1)) gd_L_law_812 (nI_add i 1) ?_
  refine gz_iaload (i := i + 1) gd_L_law_813 rfl h2b rfl (by omega) (by omega) rfl ?_
  refine gz_virtual1 gd_L_law_814 hR1.1 rfl rfl gs_L_law_814 (Nat.le_of_ble_eq_true rfl) (Nat.le_of_ble_eq_true rfl) ?_
  refine m_resend hR1 hT hV.ji (fun S2 M2 hR2 hT2 => ?_)
  refine gz_istore gd_L_law_817 (Nat.le_of_ble_eq_true rfl) rfl ?_
  refine gz_aload_n gd_L_law_819 rfl rfl (gz_isr.r _) ?_
  refine gz_virtual0 gd_L_law_820 hR2.1 rfl rfl gs_L_law_820 (Nat.le_of_ble_eq_true rfl) (Nat.le_of_ble_eq_true rfl) ?_
  refine m_thr hR2 hT2 (fun S3 M3 hR3 hT3 => ?_)
  refine gz_iload gd_L_law_823 rfl ?_
  refine gz_icmp_eq (tgt := 830) gd_L_law_825 (by decide) (fun h825 => ?_) (fun h825 => ?_)
  ·
    refine gz_iload gd_L_law_830 rfl ?_
    refine gz_if_ne (tgt := 847) gd_L_law_832 (by decide) (fun h832 => ?_) (fun h832 => ?_)
    ·
      refine gz_goto (tgt := 1511) gd_L_law_847 (by decide) ?_
      exact k _ _ _ _ _ _ _ _ _ _ _ _ _ hR3.self (hC1.side (hR1.sd hO1) (fun j hj => hR3.2.2.2 j (by omega))) hT3 (hV.resend) ((hR3.2.2.2 2 (by omega)).trans h2b) ((hR3.2.2.2 113 (by omega)).trans hO1)
    ·
      have hA := hA1 h832
      have hO3 := (hR3.2.2.2 113 (by omega)).trans hO1
      refine gz_aload_n gd_L_law_835 rfl rfl (gz_isr.r _) ?_
      refine gz_iconst (v := 0) gd_L_law_836 (by decide) ?_
      refine gz_laload (i := 0) gd_L_law_837 rfl hO3 rfl (by decide) (by decide) hA ?_
      refine gz_iload gd_L_law_838 rfl ?_
      refine gz_i2l gd_L_law_840 ?_
      refine gz_lcmp gd_L_law_841 ?_
      refine gz_if_eq (tgt := 847) gd_L_law_842 (by decide) (fun h842 => ?_) (fun h842 => ?_)
      ·
        refine gz_goto (tgt := 1511) gd_L_law_847 (by decide) ?_
        exact k _ _ _ _ _ _ _ _ _ _ _ _ _ hR3.self (hC1.side (hR1.sd hO1) (fun j hj => hR3.2.2.2 j (by omega))) hT3 (hV.resend) ((hR3.2.2.2 2 (by omega)).trans h2b) ((hR3.2.2.2 113 (by omega)).trans hO1)
      ·
        exact absurd ((lg_cmp_eq _ _).2 rfl) h842
  ·
    exact absurd rfl h825

theorem lc_letters {l : Launch} {D : gzD} {K : gzK} {M : gzM} {n nc ns : Nat} {b : Nat} {v : gV} {g : gG} {T : CT} {q : Nat} {S : gS} {L : gL} {f : Nat → Value} {len i : Nat} {sc : Nat → Int32} {a5 a6 a7 : Option Value} (hR : RF M S L M) (hC : RC M b v g T M n nc ns) (hT : Rel 12 true S T) (hV : IV T q) (hq : q < 512) (hD : RM D) (hb : b + 1000 ≤ 300000) (hls : l.stackTraces = false) (h2 : M 2 = some (.inl (0, len, fun j => .int (sc j)))) (hO : M 113 = some (.inl (2, 1, f))) (hi : i + 5 ≤ len) (hl : len ≤ 2560) (k : LK l D K len sc i (b + 560) (q + 1)) : GZ l P1 D F_L_law K 850 [some (.ref 2), some (.ref 3), some (.ref 83), some (.ref 113), some (.int (nI i)), a5, a6, a7] [] M n nc ns := by
  refine gz_aload_n gd_L_law_850 rfl rfl (gz_isr.r _) ?_
  refine gz_virtual0 gd_L_law_851 hC.1.house rfl rfl gs_L_law_851 (Nat.le_of_ble_eq_true rfl) (Nat.le_of_ble_eq_true rfl) ?_
  refine h_letters hC hD hb hls (fun v1 g1 M1 n1 nc1 ns1 hC0 hz => ?_)
  obtain ⟨v2, g2, f1, hC1, hF1, h21, hO1⟩ := wk_v hC0 (hR.sd hO) hO
  have hR1 := hR.mv hF1
  have h2b := h21.trans h2
  refine gz_aload_n gd_L_law_854 rfl rfl (gz_isr.r _) ?_
  refine gz_virtual0 gd_L_law_855 hR1.1 rfl rfl gs_L_law_855 (Nat.le_of_ble_eq_true rfl) (Nat.le_of_ble_eq_true rfl) ?_
  refine m_letters2 hR1 hT (fun S2 M2 hR2 hT2 => ?_)
  refine gz_icmp_eq (tgt := 1511) gd_L_law_858 (by decide) (fun h858 => ?_) (fun h858 => ?_)
  ·
    exact k _ _ _ _ _ _ _ _ _ _ _ _ _ hR2.self (hC1.side (hR1.sd hO1) (fun j hj => hR2.2.2.2 j (by omega))) hT2 (hV.letters) ((hR2.2.2.2 2 (by omega)).trans h2b) ((hR2.2.2.2 113 (by omega)).trans hO1)
  ·
    exact absurd rfl h858

theorem lc_letter {l : Launch} {D : gzD} {K : gzK} {M : gzM} {n nc ns : Nat} {b : Nat} {v : gV} {g : gG} {T : CT} {q : Nat} {S : gS} {L : gL} {f : Nat → Value} {len i : Nat} {sc : Nat → Int32} {a5 a6 a7 : Option Value} (hR : RF M S L M) (hC : RC M b v g T M n nc ns) (hT : Rel 12 true S T) (hV : IV T q) (hq : q < 512) (hD : RM D) (hb : b + 1000 ≤ 300000) (hls : l.stackTraces = false) (h2 : M 2 = some (.inl (0, len, fun j => .int (sc j)))) (hO : M 113 = some (.inl (2, 1, f))) (hi : i + 5 ≤ len) (hl : len ≤ 2560) (k : LK l D K len sc i (b + 560) (q + 1)) : GZ l P1 D F_L_law K 863 [some (.ref 2), some (.ref 3), some (.ref 83), some (.ref 113), some (.int (nI i)), a5, a6, a7] [] M n nc ns := by
  refine gz_aload_n gd_L_law_863 rfl rfl (gz_isr.r _) ?_
  refine gz_aload_n gd_L_law_864 rfl rfl (gz_isr.r _) ?_
  refine gz_iload gd_L_law_865 rfl ?_
  refine gz_iconst (v := 1) gd_L_law_867 (by decide) ?_
  refine gq_iadd (z := nI (i + 1)) gd_L_law_868 (nI_add i 1) ?_
  refine gz_iaload (i := i + 1) gd_L_law_869 rfl h2 rfl (by omega) (by omega) rfl ?_
  refine gz_aload_n gd_L_law_870 rfl rfl (gz_isr.r _) ?_
  refine gz_iload gd_L_law_871 rfl ?_
  refine gz_iconst (v := 2) gd_L_law_873 (by decide) ?_
  refine gq_iadd (z := nI (i + 2)) gd_L_law_874 (nI_add i 2) ?_
  refine gz_iaload (i := i + 2) gd_L_law_875 rfl h2 rfl (by omega) (by omega) rfl ?_
  refine gz_aload_n gd_L_law_876 rfl rfl (gz_isr.r _) ?_
  refine gz_static4 gd_L_law_877 gs_L_law_877 (Nat.le_of_ble_eq_true rfl) (Nat.le_of_ble_eq_true rfl) ?_
  refine lw_letter hC hD hb hls hV hq (hR.sd hO) hO (fun M1 n1 nc1 ns1 hW => ?_)
  obtain ⟨v1, g1, f1, hC1, hF1, h21, hO1, hA1⟩ := hW
  have hR1 := hR.mv hF1
  have h2b := h21.trans h2
  refine gz_istore gd_L_law_880 (Nat.le_of_ble_eq_true rfl) rfl ?_
  refine gz_aload_n gd_L_law_882 rfl rfl (gz_isr.r _) ?_
  refine gz_aload_n gd_L_law_883 rfl rfl (gz_isr.r _) ?_
  refine gz_iload gd_L_law_884 rfl ?_
  refine gz_iconst (v := 1) gd_L_law_886 (by decide) ?_
  refine gq_iadd (z := nI (i + 1)) gd_L_law_887 (nI_add i 1) ?_
  refine gz_iaload (i := i + 1) gd_L_law_888 rfl h2b rfl (by omega) (by omega) rfl ?_
  refine gz_aload_n gd_L_law_889 rfl rfl (gz_isr.r _) ?_
  refine gz_iload gd_L_law_890 rfl ?_
  refine gz_iconst (v := 2) gd_L_law_892 (by decide) ?_
  refine gq_iadd (z := nI (i + 2)) gd_L_law_893 (nI_add i 2) ?_
  refine gz_iaload (i := i + 2) gd_L_law_894 rfl h2b rfl (by omega) (by omega) rfl ?_
  refine gz_virtual2 gd_L_law_895 hR1.1 rfl rfl gs_L_law_895 (Nat.le_of_ble_eq_true rfl) (Nat.le_of_ble_eq_true rfl) ?_
  refine m_letter hR1 hT hV.ji.1 (fun S2 M2 hR2 hT2 => ?_)
  refine gz_istore gd_L_law_898 (Nat.le_of_ble_eq_true rfl) rfl ?_
  refine gz_aload_n gd_L_law_900 rfl rfl (gz_isr.r _) ?_
  refine gz_virtual0 gd_L_law_901 hR2.1 rfl rfl gs_L_law_901 (Nat.le_of_ble_eq_true rfl) (Nat.le_of_ble_eq_true rfl) ?_
  refine m_thr hR2 hT2 (fun S3 M3 hR3 hT3 => ?_)
  refine gz_iload gd_L_law_904 rfl ?_
  refine gz_icmp_eq (tgt := 911) gd_L_law_906 (by decide) (fun h906 => ?_) (fun h906 => ?_)
  ·
    refine gz_iload gd_L_law_911 rfl ?_
    refine gz_if_ne (tgt := 928) gd_L_law_913 (by decide) (fun h913 => ?_) (fun h913 => ?_)
    ·
      refine gz_goto (tgt := 1511) gd_L_law_928 (by decide) ?_
      exact k _ _ _ _ _ _ _ _ _ _ _ _ _ hR3.self (hC1.side (hR1.sd hO1) (fun j hj => hR3.2.2.2 j (by omega))) hT3 (hV.letter) ((hR3.2.2.2 2 (by omega)).trans h2b) ((hR3.2.2.2 113 (by omega)).trans hO1)
    ·
      have hA := hA1 h913
      have hO3 := (hR3.2.2.2 113 (by omega)).trans hO1
      refine gz_aload_n gd_L_law_916 rfl rfl (gz_isr.r _) ?_
      refine gz_iconst (v := 0) gd_L_law_917 (by decide) ?_
      refine gz_laload (i := 0) gd_L_law_918 rfl hO3 rfl (by decide) (by decide) hA ?_
      refine gz_iload gd_L_law_919 rfl ?_
      refine gz_i2l gd_L_law_921 ?_
      refine gz_lcmp gd_L_law_922 ?_
      refine gz_if_eq (tgt := 928) gd_L_law_923 (by decide) (fun h923 => ?_) (fun h923 => ?_)
      ·
        refine gz_goto (tgt := 1511) gd_L_law_928 (by decide) ?_
        exact k _ _ _ _ _ _ _ _ _ _ _ _ _ hR3.self (hC1.side (hR1.sd hO1) (fun j hj => hR3.2.2.2 j (by omega))) hT3 (hV.letter) ((hR3.2.2.2 2 (by omega)).trans h2b) ((hR3.2.2.2 113 (by omega)).trans hO1)
      ·
        exact absurd ((lg_cmp_eq _ _).2 rfl) h923
  ·
    exact absurd rfl h906

theorem lc_sum {l : Launch} {D : gzD} {K : gzK} {M : gzM} {n nc ns : Nat} {b : Nat} {v : gV} {g : gG} {T : CT} {q : Nat} {S : gS} {L : gL} {f : Nat → Value} {len i : Nat} {sc : Nat → Int32} {a5 a6 a7 : Option Value} (hR : RF M S L M) (hC : RC M b v g T M n nc ns) (hT : Rel 12 true S T) (hV : IV T q) (hq : q < 512) (hD : RM D) (hb : b + 1000 ≤ 300000) (hls : l.stackTraces = false) (h2 : M 2 = some (.inl (0, len, fun j => .int (sc j)))) (hO : M 113 = some (.inl (2, 1, f))) (hi : i + 5 ≤ len) (hl : len ≤ 2560) (k : LK l D K len sc i (b + 560) (q + 1)) : GZ l P1 D F_L_law K 931 [some (.ref 2), some (.ref 3), some (.ref 83), some (.ref 113), some (.int (nI i)), a5, a6, a7] [] M n nc ns := by
  refine gz_aload_n gd_L_law_931 rfl rfl (gz_isr.r _) ?_
  refine gz_aload_n gd_L_law_932 rfl rfl (gz_isr.r _) ?_
  refine gz_iload gd_L_law_933 rfl ?_
  refine gz_iconst (v := 1) gd_L_law_935 (by decide) ?_
  refine gq_iadd (z := nI (i + 1)) gd_L_law_936 (nI_add i 1) ?_
  refine gz_iaload (i := i + 1) gd_L_law_937 rfl h2 rfl (by omega) (by omega) rfl ?_
  refine gz_aload_n gd_L_law_938 rfl rfl (gz_isr.r _) ?_
  refine gz_iload gd_L_law_939 rfl ?_
  refine gz_iconst (v := 2) gd_L_law_941 (by decide) ?_
  refine gq_iadd (z := nI (i + 2)) gd_L_law_942 (nI_add i 2) ?_
  refine gz_iaload (i := i + 2) gd_L_law_943 rfl h2 rfl (by omega) (by omega) rfl ?_
  refine gz_aload_n gd_L_law_944 rfl rfl (gz_isr.r _) ?_
  refine gz_static4 gd_L_law_945 gs_L_law_945 (Nat.le_of_ble_eq_true rfl) (Nat.le_of_ble_eq_true rfl) ?_
  refine lw_sum hC hD hb hls hV hq (hR.sd hO) hO (fun M1 n1 nc1 ns1 hW => ?_)
  obtain ⟨v1, g1, f1, hC1, hF1, h21, hO1, hA1⟩ := hW
  have hR1 := hR.mv hF1
  have h2b := h21.trans h2
  refine gz_istore gd_L_law_948 (Nat.le_of_ble_eq_true rfl) rfl ?_
  refine gz_aload_n gd_L_law_950 rfl rfl (gz_isr.r _) ?_
  refine gz_aload_n gd_L_law_951 rfl rfl (gz_isr.r _) ?_
  refine gz_iload gd_L_law_952 rfl ?_
  refine gz_iconst (v := 1) gd_L_law_954 (by decide) ?_
  refine gq_iadd (z := nI (i + 1)) gd_L_law_955 (nI_add i 1) ?_
  refine gz_iaload (i := i + 1) gd_L_law_956 rfl h2b rfl (by omega) (by omega) rfl ?_
  refine gz_aload_n gd_L_law_957 rfl rfl (gz_isr.r _) ?_
  refine gz_iload gd_L_law_958 rfl ?_
  refine gz_iconst (v := 2) gd_L_law_960 (by decide) ?_
  refine gq_iadd (z := nI (i + 2)) gd_L_law_961 (nI_add i 2) ?_
  refine gz_iaload (i := i + 2) gd_L_law_962 rfl h2b rfl (by omega) (by omega) rfl ?_
  refine gz_virtual2 gd_L_law_963 hR1.1 rfl rfl gs_L_law_963 (Nat.le_of_ble_eq_true rfl) (Nat.le_of_ble_eq_true rfl) ?_
  refine m_sum hR1 hT hV.ji.1 (fun S2 L2 M2 hR2 hT2 => ?_)
  refine gz_lstore gd_L_law_966 (Nat.le_of_ble_eq_true rfl) rfl ?_
  refine gz_aload_n gd_L_law_968 rfl rfl (gz_isr.r _) ?_
  refine gz_virtual0 gd_L_law_969 hR2.1 rfl rfl gs_L_law_969 (Nat.le_of_ble_eq_true rfl) (Nat.le_of_ble_eq_true rfl) ?_
  refine m_thr hR2 hT2 (fun S3 M3 hR3 hT3 => ?_)
  refine gz_iload gd_L_law_972 rfl ?_
  refine gz_icmp_eq (tgt := 979) gd_L_law_974 (by decide) (fun h974 => ?_) (fun h974 => ?_)
  ·
    refine gz_iload gd_L_law_979 rfl ?_
    refine gz_if_ne (tgt := 995) gd_L_law_981 (by decide) (fun h981 => ?_) (fun h981 => ?_)
    ·
      refine gz_goto (tgt := 1511) gd_L_law_995 (by decide) ?_
      exact k _ _ _ _ _ _ _ _ _ _ _ _ _ hR3.self (hC1.side (hR1.sd hO1) (fun j hj => hR3.2.2.2 j (by omega))) hT3 (hV.sum) ((hR3.2.2.2 2 (by omega)).trans h2b) ((hR3.2.2.2 113 (by omega)).trans hO1)
    ·
      have hA := hA1 h981
      have hO3 := (hR3.2.2.2 113 (by omega)).trans hO1
      refine gz_aload_n gd_L_law_984 rfl rfl (gz_isr.r _) ?_
      refine gz_iconst (v := 0) gd_L_law_985 (by decide) ?_
      refine gz_laload (i := 0) gd_L_law_986 rfl hO3 rfl (by decide) (by decide) hA ?_
      refine gz_lload gd_L_law_987 rfl ?_
      refine gz_lcmp gd_L_law_989 ?_
      refine gz_if_eq (tgt := 995) gd_L_law_990 (by decide) (fun h990 => ?_) (fun h990 => ?_)
      ·
        refine gz_goto (tgt := 1511) gd_L_law_995 (by decide) ?_
        exact k _ _ _ _ _ _ _ _ _ _ _ _ _ hR3.self (hC1.side (hR1.sd hO1) (fun j hj => hR3.2.2.2 j (by omega))) hT3 (hV.sum) ((hR3.2.2.2 2 (by omega)).trans h2b) ((hR3.2.2.2 113 (by omega)).trans hO1)
      ·
        exact absurd ((lg_cmp_eq _ _).2 rfl) h990
  ·
    exact absurd rfl h974

theorem lc_included {l : Launch} {D : gzD} {K : gzK} {M : gzM} {n nc ns : Nat} {b : Nat} {v : gV} {g : gG} {T : CT} {q : Nat} {S : gS} {L : gL} {f : Nat → Value} {len i : Nat} {sc : Nat → Int32} {a5 a6 a7 : Option Value} (hR : RF M S L M) (hC : RC M b v g T M n nc ns) (hT : Rel 12 true S T) (hV : IV T q) (hq : q < 512) (hD : RM D) (hb : b + 1000 ≤ 300000) (hls : l.stackTraces = false) (h2 : M 2 = some (.inl (0, len, fun j => .int (sc j)))) (hO : M 113 = some (.inl (2, 1, f))) (hi : i + 5 ≤ len) (hl : len ≤ 2560) (k : LK l D K len sc i (b + 560) (q + 1)) : GZ l P1 D F_L_law K 998 [some (.ref 2), some (.ref 3), some (.ref 83), some (.ref 113), some (.int (nI i)), a5, a6, a7] [] M n nc ns := by
  refine gz_aload_n gd_L_law_998 rfl rfl (gz_isr.r _) ?_
  refine gz_aload_n gd_L_law_999 rfl rfl (gz_isr.r _) ?_
  refine gz_iload gd_L_law_1000 rfl ?_
  refine gz_iconst (v := 1) gd_L_law_1002 (by decide) ?_
  refine gq_iadd (z := nI (i + 1)) gd_L_law_1003 (nI_add i 1) ?_
  refine gz_iaload (i := i + 1) gd_L_law_1004 rfl h2 rfl (by omega) (by omega) rfl ?_
  refine gz_aload_n gd_L_law_1005 rfl rfl (gz_isr.r _) ?_
  refine gz_iload gd_L_law_1006 rfl ?_
  refine gz_iconst (v := 2) gd_L_law_1008 (by decide) ?_
  refine gq_iadd (z := nI (i + 2)) gd_L_law_1009 (nI_add i 2) ?_
  refine gz_iaload (i := i + 2) gd_L_law_1010 rfl h2 rfl (by omega) (by omega) rfl ?_
  refine gz_aload_n gd_L_law_1011 rfl rfl (gz_isr.r _) ?_
  refine gz_static4 gd_L_law_1012 gs_L_law_1012 (Nat.le_of_ble_eq_true rfl) (Nat.le_of_ble_eq_true rfl) ?_
  refine lw_included hC hD hb hls hV hq (hR.sd hO) hO (fun M1 n1 nc1 ns1 hW => ?_)
  obtain ⟨v1, g1, f1, hC1, hF1, h21, hO1, hA1⟩ := hW
  have hR1 := hR.mv hF1
  have h2b := h21.trans h2
  refine gz_istore gd_L_law_1015 (Nat.le_of_ble_eq_true rfl) rfl ?_
  refine gz_aload_n gd_L_law_1017 rfl rfl (gz_isr.r _) ?_
  refine gz_aload_n gd_L_law_1018 rfl rfl (gz_isr.r _) ?_
  refine gz_iload gd_L_law_1019 rfl ?_
  refine gz_iconst (v := 1) gd_L_law_1021 (by decide) ?_
  refine gq_iadd (z := nI (i + 1)) gd_L_law_1022 (nI_add i 1) ?_
  refine gz_iaload (i := i + 1) gd_L_law_1023 rfl h2b rfl (by omega) (by omega) rfl ?_
  refine gz_aload_n gd_L_law_1024 rfl rfl (gz_isr.r _) ?_
  refine gz_iload gd_L_law_1025 rfl ?_
  refine gz_iconst (v := 2) gd_L_law_1027 (by decide) ?_
  refine gq_iadd (z := nI (i + 2)) gd_L_law_1028 (nI_add i 2) ?_
  refine gz_iaload (i := i + 2) gd_L_law_1029 rfl h2b rfl (by omega) (by omega) rfl ?_
  refine gz_virtual2 gd_L_law_1030 hR1.1 rfl rfl gs_L_law_1030 (Nat.le_of_ble_eq_true rfl) (Nat.le_of_ble_eq_true rfl) ?_
  refine m_included hR1 hT hV.ji.1 (fun S2 M2 hR2 hT2 => ?_)
  refine gz_istore gd_L_law_1033 (Nat.le_of_ble_eq_true rfl) rfl ?_
  refine gz_aload_n gd_L_law_1035 rfl rfl (gz_isr.r _) ?_
  refine gz_virtual0 gd_L_law_1036 hR2.1 rfl rfl gs_L_law_1036 (Nat.le_of_ble_eq_true rfl) (Nat.le_of_ble_eq_true rfl) ?_
  refine m_thr hR2 hT2 (fun S3 M3 hR3 hT3 => ?_)
  refine gz_iload gd_L_law_1039 rfl ?_
  refine gz_icmp_eq (tgt := 1046) gd_L_law_1041 (by decide) (fun h1041 => ?_) (fun h1041 => ?_)
  ·
    refine gz_iload gd_L_law_1046 rfl ?_
    refine gz_if_ne (tgt := 1063) gd_L_law_1048 (by decide) (fun h1048 => ?_) (fun h1048 => ?_)
    ·
      refine gz_goto (tgt := 1511) gd_L_law_1063 (by decide) ?_
      exact k _ _ _ _ _ _ _ _ _ _ _ _ _ hR3.self (hC1.side (hR1.sd hO1) (fun j hj => hR3.2.2.2 j (by omega))) hT3 (hV.included) ((hR3.2.2.2 2 (by omega)).trans h2b) ((hR3.2.2.2 113 (by omega)).trans hO1)
    ·
      have hA := hA1 h1048
      have hO3 := (hR3.2.2.2 113 (by omega)).trans hO1
      refine gz_aload_n gd_L_law_1051 rfl rfl (gz_isr.r _) ?_
      refine gz_iconst (v := 0) gd_L_law_1052 (by decide) ?_
      refine gz_laload (i := 0) gd_L_law_1053 rfl hO3 rfl (by decide) (by decide) hA ?_
      refine gz_iload gd_L_law_1054 rfl ?_
      refine gz_i2l gd_L_law_1056 ?_
      refine gz_lcmp gd_L_law_1057 ?_
      refine gz_if_eq (tgt := 1063) gd_L_law_1058 (by decide) (fun h1058 => ?_) (fun h1058 => ?_)
      ·
        refine gz_goto (tgt := 1511) gd_L_law_1063 (by decide) ?_
        exact k _ _ _ _ _ _ _ _ _ _ _ _ _ hR3.self (hC1.side (hR1.sd hO1) (fun j hj => hR3.2.2.2 j (by omega))) hT3 (hV.included) ((hR3.2.2.2 2 (by omega)).trans h2b) ((hR3.2.2.2 113 (by omega)).trans hO1)
      ·
        exact absurd ((lg_cmp_eq _ _).2 rfl) h1058
  ·
    exact absurd rfl h1041

theorem lc_through {l : Launch} {D : gzD} {K : gzK} {M : gzM} {n nc ns : Nat} {b : Nat} {v : gV} {g : gG} {T : CT} {q : Nat} {S : gS} {L : gL} {f : Nat → Value} {len i : Nat} {sc : Nat → Int32} {a5 a6 a7 : Option Value} (hR : RF M S L M) (hC : RC M b v g T M n nc ns) (hT : Rel 12 true S T) (hV : IV T q) (hq : q < 512) (hD : RM D) (hb : b + 1000 ≤ 300000) (hls : l.stackTraces = false) (h2 : M 2 = some (.inl (0, len, fun j => .int (sc j)))) (hO : M 113 = some (.inl (2, 1, f))) (hi : i + 5 ≤ len) (hl : len ≤ 2560) (k : LK l D K len sc i (b + 560) (q + 1)) : GZ l P1 D F_L_law K 1066 [some (.ref 2), some (.ref 3), some (.ref 83), some (.ref 113), some (.int (nI i)), a5, a6, a7] [] M n nc ns := by
  refine gz_aload_n gd_L_law_1066 rfl rfl (gz_isr.r _) ?_
  refine gz_aload_n gd_L_law_1067 rfl rfl (gz_isr.r _) ?_
  refine gz_iload gd_L_law_1068 rfl ?_
  refine gz_iconst (v := 1) gd_L_law_1070 (by decide) ?_
  refine gq_iadd (z := nI (i + 1)) gd_L_law_1071 (nI_add i 1) ?_
  refine gz_iaload (i := i + 1) gd_L_law_1072 rfl h2 rfl (by omega) (by omega) rfl ?_
  refine gz_aload_n gd_L_law_1073 rfl rfl (gz_isr.r _) ?_
  refine gz_iload gd_L_law_1074 rfl ?_
  refine gz_iconst (v := 2) gd_L_law_1076 (by decide) ?_
  refine gq_iadd (z := nI (i + 2)) gd_L_law_1077 (nI_add i 2) ?_
  refine gz_iaload (i := i + 2) gd_L_law_1078 rfl h2 rfl (by omega) (by omega) rfl ?_
  refine gz_aload_n gd_L_law_1079 rfl rfl (gz_isr.r _) ?_
  refine gz_static4 gd_L_law_1080 gs_L_law_1080 (Nat.le_of_ble_eq_true rfl) (Nat.le_of_ble_eq_true rfl) ?_
  refine lw_through hC hD hb hls hV hq (hR.sd hO) hO (fun M1 n1 nc1 ns1 hW => ?_)
  obtain ⟨v1, g1, f1, hC1, hF1, h21, hO1, hA1⟩ := hW
  have hR1 := hR.mv hF1
  have h2b := h21.trans h2
  refine gz_istore gd_L_law_1083 (Nat.le_of_ble_eq_true rfl) rfl ?_
  refine gz_aload_n gd_L_law_1085 rfl rfl (gz_isr.r _) ?_
  refine gz_aload_n gd_L_law_1086 rfl rfl (gz_isr.r _) ?_
  refine gz_iload gd_L_law_1087 rfl ?_
  refine gz_iconst (v := 1) gd_L_law_1089 (by decide) ?_
  refine gq_iadd (z := nI (i + 1)) gd_L_law_1090 (nI_add i 1) ?_
  refine gz_iaload (i := i + 1) gd_L_law_1091 rfl h2b rfl (by omega) (by omega) rfl ?_
  refine gz_aload_n gd_L_law_1092 rfl rfl (gz_isr.r _) ?_
  refine gz_iload gd_L_law_1093 rfl ?_
  refine gz_iconst (v := 2) gd_L_law_1095 (by decide) ?_
  refine gq_iadd (z := nI (i + 2)) gd_L_law_1096 (nI_add i 2) ?_
  refine gz_iaload (i := i + 2) gd_L_law_1097 rfl h2b rfl (by omega) (by omega) rfl ?_
  refine gz_virtual2 gd_L_law_1098 hR1.1 rfl rfl gs_L_law_1098 (Nat.le_of_ble_eq_true rfl) (Nat.le_of_ble_eq_true rfl) ?_
  refine m_through hR1 hT hV.ji.1 (fun S2 M2 hR2 hT2 => ?_)
  refine gz_istore gd_L_law_1101 (Nat.le_of_ble_eq_true rfl) rfl ?_
  refine gz_aload_n gd_L_law_1103 rfl rfl (gz_isr.r _) ?_
  refine gz_virtual0 gd_L_law_1104 hR2.1 rfl rfl gs_L_law_1104 (Nat.le_of_ble_eq_true rfl) (Nat.le_of_ble_eq_true rfl) ?_
  refine m_thr hR2 hT2 (fun S3 M3 hR3 hT3 => ?_)
  refine gz_iload gd_L_law_1107 rfl ?_
  refine gz_icmp_eq (tgt := 1114) gd_L_law_1109 (by decide) (fun h1109 => ?_) (fun h1109 => ?_)
  ·
    refine gz_iload gd_L_law_1114 rfl ?_
    refine gz_if_ne (tgt := 1131) gd_L_law_1116 (by decide) (fun h1116 => ?_) (fun h1116 => ?_)
    ·
      refine gz_goto (tgt := 1511) gd_L_law_1131 (by decide) ?_
      exact k _ _ _ _ _ _ _ _ _ _ _ _ _ hR3.self (hC1.side (hR1.sd hO1) (fun j hj => hR3.2.2.2 j (by omega))) hT3 (hV.through) ((hR3.2.2.2 2 (by omega)).trans h2b) ((hR3.2.2.2 113 (by omega)).trans hO1)
    ·
      have hA := hA1 h1116
      have hO3 := (hR3.2.2.2 113 (by omega)).trans hO1
      refine gz_aload_n gd_L_law_1119 rfl rfl (gz_isr.r _) ?_
      refine gz_iconst (v := 0) gd_L_law_1120 (by decide) ?_
      refine gz_laload (i := 0) gd_L_law_1121 rfl hO3 rfl (by decide) (by decide) hA ?_
      refine gz_iload gd_L_law_1122 rfl ?_
      refine gz_i2l gd_L_law_1124 ?_
      refine gz_lcmp gd_L_law_1125 ?_
      refine gz_if_eq (tgt := 1131) gd_L_law_1126 (by decide) (fun h1126 => ?_) (fun h1126 => ?_)
      ·
        refine gz_goto (tgt := 1511) gd_L_law_1131 (by decide) ?_
        exact k _ _ _ _ _ _ _ _ _ _ _ _ _ hR3.self (hC1.side (hR1.sd hO1) (fun j hj => hR3.2.2.2 j (by omega))) hT3 (hV.through) ((hR3.2.2.2 2 (by omega)).trans h2b) ((hR3.2.2.2 113 (by omega)).trans hO1)
      ·
        exact absurd ((lg_cmp_eq _ _).2 rfl) h1126
  ·
    exact absurd rfl h1109

theorem lc_held {l : Launch} {D : gzD} {K : gzK} {M : gzM} {n nc ns : Nat} {b : Nat} {v : gV} {g : gG} {T : CT} {q : Nat} {S : gS} {L : gL} {f : Nat → Value} {len i : Nat} {sc : Nat → Int32} {a5 a6 a7 : Option Value} (hR : RF M S L M) (hC : RC M b v g T M n nc ns) (hT : Rel 12 true S T) (hV : IV T q) (hq : q < 512) (hD : RM D) (hb : b + 1000 ≤ 300000) (hls : l.stackTraces = false) (h2 : M 2 = some (.inl (0, len, fun j => .int (sc j)))) (hO : M 113 = some (.inl (2, 1, f))) (hi : i + 5 ≤ len) (hl : len ≤ 2560) (k : LK l D K len sc i (b + 560) (q + 1)) : GZ l P1 D F_L_law K 1134 [some (.ref 2), some (.ref 3), some (.ref 83), some (.ref 113), some (.int (nI i)), a5, a6, a7] [] M n nc ns := by
  refine gz_aload_n gd_L_law_1134 rfl rfl (gz_isr.r _) ?_
  refine gz_aload_n gd_L_law_1135 rfl rfl (gz_isr.r _) ?_
  refine gz_iload gd_L_law_1136 rfl ?_
  refine gz_iconst (v := 1) gd_L_law_1138 (by decide) ?_
  refine gq_iadd (z := nI (i + 1)) gd_L_law_1139 (nI_add i 1) ?_
  refine gz_iaload (i := i + 1) gd_L_law_1140 rfl h2 rfl (by omega) (by omega) rfl ?_
  refine gz_aload_n gd_L_law_1141 rfl rfl (gz_isr.r _) ?_
  refine gz_iload gd_L_law_1142 rfl ?_
  refine gz_iconst (v := 2) gd_L_law_1144 (by decide) ?_
  refine gq_iadd (z := nI (i + 2)) gd_L_law_1145 (nI_add i 2) ?_
  refine gz_iaload (i := i + 2) gd_L_law_1146 rfl h2 rfl (by omega) (by omega) rfl ?_
  refine gz_aload_n gd_L_law_1147 rfl rfl (gz_isr.r _) ?_
  refine gz_iload gd_L_law_1148 rfl ?_
  refine gz_iconst (v := 3) gd_L_law_1150 (by decide) ?_
  refine gq_iadd (z := nI (i + 3)) gd_L_law_1151 (nI_add i 3) ?_
  refine gz_iaload (i := i + 3) gd_L_law_1152 rfl h2 rfl (by omega) (by omega) rfl ?_
  refine gz_aload_n gd_L_law_1153 rfl rfl (gz_isr.r _) ?_
  refine gz_static5 gd_L_law_1154 gs_L_law_1154 (Nat.le_of_ble_eq_true rfl) (Nat.le_of_ble_eq_true rfl) ?_
  refine lw_held hC hD hb hls hV hq (hR.sd hO) hO (fun M1 n1 nc1 ns1 hW => ?_)
  obtain ⟨v1, g1, f1, hC1, hF1, h21, hO1, hA1⟩ := hW
  have hR1 := hR.mv hF1
  have h2b := h21.trans h2
  refine gz_istore gd_L_law_1157 (Nat.le_of_ble_eq_true rfl) rfl ?_
  refine gz_aload_n gd_L_law_1159 rfl rfl (gz_isr.r _) ?_
  refine gz_aload_n gd_L_law_1160 rfl rfl (gz_isr.r _) ?_
  refine gz_iload gd_L_law_1161 rfl ?_
  refine gz_iconst (v := 1) gd_L_law_1163 (by decide) ?_
  refine gq_iadd (z := nI (i + 1)) gd_L_law_1164 (nI_add i 1) ?_
  refine gz_iaload (i := i + 1) gd_L_law_1165 rfl h2b rfl (by omega) (by omega) rfl ?_
  refine gz_aload_n gd_L_law_1166 rfl rfl (gz_isr.r _) ?_
  refine gz_iload gd_L_law_1167 rfl ?_
  refine gz_iconst (v := 2) gd_L_law_1169 (by decide) ?_
  refine gq_iadd (z := nI (i + 2)) gd_L_law_1170 (nI_add i 2) ?_
  refine gz_iaload (i := i + 2) gd_L_law_1171 rfl h2b rfl (by omega) (by omega) rfl ?_
  refine gz_aload_n gd_L_law_1172 rfl rfl (gz_isr.r _) ?_
  refine gz_iload gd_L_law_1173 rfl ?_
  refine gz_iconst (v := 3) gd_L_law_1175 (by decide) ?_
  refine gq_iadd (z := nI (i + 3)) gd_L_law_1176 (nI_add i 3) ?_
  refine gz_iaload (i := i + 3) gd_L_law_1177 rfl h2b rfl (by omega) (by omega) rfl ?_
  refine gz_virtual3 gd_L_law_1178 hR1.1 rfl rfl gs_L_law_1178 (Nat.le_of_ble_eq_true rfl) (Nat.le_of_ble_eq_true rfl) ?_
  refine m_held hR1 hT hV.ji.1 (fun S2 L2 M2 hR2 hT2 => ?_)
  refine gz_lstore gd_L_law_1181 (Nat.le_of_ble_eq_true rfl) rfl ?_
  refine gz_aload_n gd_L_law_1183 rfl rfl (gz_isr.r _) ?_
  refine gz_virtual0 gd_L_law_1184 hR2.1 rfl rfl gs_L_law_1184 (Nat.le_of_ble_eq_true rfl) (Nat.le_of_ble_eq_true rfl) ?_
  refine m_thr hR2 hT2 (fun S3 M3 hR3 hT3 => ?_)
  refine gz_iload gd_L_law_1187 rfl ?_
  refine gz_icmp_eq (tgt := 1194) gd_L_law_1189 (by decide) (fun h1189 => ?_) (fun h1189 => ?_)
  ·
    refine gz_iload gd_L_law_1194 rfl ?_
    refine gz_if_ne (tgt := 1210) gd_L_law_1196 (by decide) (fun h1196 => ?_) (fun h1196 => ?_)
    ·
      refine gz_goto (tgt := 1511) gd_L_law_1210 (by decide) ?_
      exact k _ _ _ _ _ _ _ _ _ _ _ _ _ hR3.self (hC1.side (hR1.sd hO1) (fun j hj => hR3.2.2.2 j (by omega))) hT3 (hV.held) ((hR3.2.2.2 2 (by omega)).trans h2b) ((hR3.2.2.2 113 (by omega)).trans hO1)
    ·
      have hA := hA1 h1196
      have hO3 := (hR3.2.2.2 113 (by omega)).trans hO1
      refine gz_aload_n gd_L_law_1199 rfl rfl (gz_isr.r _) ?_
      refine gz_iconst (v := 0) gd_L_law_1200 (by decide) ?_
      refine gz_laload (i := 0) gd_L_law_1201 rfl hO3 rfl (by decide) (by decide) hA ?_
      refine gz_lload gd_L_law_1202 rfl ?_
      refine gz_lcmp gd_L_law_1204 ?_
      refine gz_if_eq (tgt := 1210) gd_L_law_1205 (by decide) (fun h1205 => ?_) (fun h1205 => ?_)
      ·
        refine gz_goto (tgt := 1511) gd_L_law_1210 (by decide) ?_
        exact k _ _ _ _ _ _ _ _ _ _ _ _ _ hR3.self (hC1.side (hR1.sd hO1) (fun j hj => hR3.2.2.2 j (by omega))) hT3 (hV.held) ((hR3.2.2.2 2 (by omega)).trans h2b) ((hR3.2.2.2 113 (by omega)).trans hO1)
      ·
        exact absurd ((lg_cmp_eq _ _).2 rfl) h1205
  ·
    exact absurd rfl h1189

theorem lc_marked {l : Launch} {D : gzD} {K : gzK} {M : gzM} {n nc ns : Nat} {b : Nat} {v : gV} {g : gG} {T : CT} {q : Nat} {S : gS} {L : gL} {f : Nat → Value} {len i : Nat} {sc : Nat → Int32} {a5 a6 a7 : Option Value} (hR : RF M S L M) (hC : RC M b v g T M n nc ns) (hT : Rel 12 true S T) (hV : IV T q) (hq : q < 512) (hD : RM D) (hb : b + 1000 ≤ 300000) (hls : l.stackTraces = false) (h2 : M 2 = some (.inl (0, len, fun j => .int (sc j)))) (hO : M 113 = some (.inl (2, 1, f))) (hi : i + 5 ≤ len) (hl : len ≤ 2560) (k : LK l D K len sc i (b + 560) (q + 1)) : GZ l P1 D F_L_law K 1213 [some (.ref 2), some (.ref 3), some (.ref 83), some (.ref 113), some (.int (nI i)), a5, a6, a7] [] M n nc ns := by
  refine gz_aload_n gd_L_law_1213 rfl rfl (gz_isr.r _) ?_
  refine gz_aload_n gd_L_law_1214 rfl rfl (gz_isr.r _) ?_
  refine gz_iload gd_L_law_1215 rfl ?_
  refine gz_iconst (v := 1) gd_L_law_1217 (by decide) ?_
  refine gq_iadd (z := nI (i + 1)) gd_L_law_1218 (nI_add i 1) ?_
  refine gz_iaload (i := i + 1) gd_L_law_1219 rfl h2 rfl (by omega) (by omega) rfl ?_
  refine gz_aload_n gd_L_law_1220 rfl rfl (gz_isr.r _) ?_
  refine gz_static3 gd_L_law_1221 gs_L_law_1221 (Nat.le_of_ble_eq_true rfl) (Nat.le_of_ble_eq_true rfl) ?_
  refine lw_marked hC hD hb hls hV hq (hR.sd hO) hO (fun M1 n1 nc1 ns1 hW => ?_)
  obtain ⟨v1, g1, f1, hC1, hF1, h21, hO1, hA1⟩ := hW
  have hR1 := hR.mv hF1
  have h2b := h21.trans h2
  refine gz_istore gd_L_law_1224 (Nat.le_of_ble_eq_true rfl) rfl ?_
  refine gz_aload_n gd_L_law_1226 rfl rfl (gz_isr.r _) ?_
  refine gz_aload_n gd_L_law_1227 rfl rfl (gz_isr.r _) ?_
  refine gz_iload gd_L_law_1228 rfl ?_
  refine gz_iconst (v := 1) gd_L_law_1230 (by decide) ?_
  refine gq_iadd (z := nI (i + 1)) gd_L_law_1231 (nI_add i 1) ?_
  refine gz_iaload (i := i + 1) gd_L_law_1232 rfl h2b rfl (by omega) (by omega) rfl ?_
  refine gz_virtual1 gd_L_law_1233 hR1.1 rfl rfl gs_L_law_1233 (Nat.le_of_ble_eq_true rfl) (Nat.le_of_ble_eq_true rfl) ?_
  refine m_marked hR1 hT hV.ji.1 (fun S2 M2 hR2 hT2 => ?_)
  refine gz_istore gd_L_law_1236 (Nat.le_of_ble_eq_true rfl) rfl ?_
  refine gz_aload_n gd_L_law_1238 rfl rfl (gz_isr.r _) ?_
  refine gz_virtual0 gd_L_law_1239 hR2.1 rfl rfl gs_L_law_1239 (Nat.le_of_ble_eq_true rfl) (Nat.le_of_ble_eq_true rfl) ?_
  refine m_thr hR2 hT2 (fun S3 M3 hR3 hT3 => ?_)
  refine gz_iload gd_L_law_1242 rfl ?_
  refine gz_icmp_eq (tgt := 1249) gd_L_law_1244 (by decide) (fun h1244 => ?_) (fun h1244 => ?_)
  ·
    refine gz_iload gd_L_law_1249 rfl ?_
    refine gz_if_ne (tgt := 1266) gd_L_law_1251 (by decide) (fun h1251 => ?_) (fun h1251 => ?_)
    ·
      refine gz_goto (tgt := 1511) gd_L_law_1266 (by decide) ?_
      exact k _ _ _ _ _ _ _ _ _ _ _ _ _ hR3.self (hC1.side (hR1.sd hO1) (fun j hj => hR3.2.2.2 j (by omega))) hT3 (hV.marked) ((hR3.2.2.2 2 (by omega)).trans h2b) ((hR3.2.2.2 113 (by omega)).trans hO1)
    ·
      have hA := hA1 h1251
      have hO3 := (hR3.2.2.2 113 (by omega)).trans hO1
      refine gz_aload_n gd_L_law_1254 rfl rfl (gz_isr.r _) ?_
      refine gz_iconst (v := 0) gd_L_law_1255 (by decide) ?_
      refine gz_laload (i := 0) gd_L_law_1256 rfl hO3 rfl (by decide) (by decide) hA ?_
      refine gz_iload gd_L_law_1257 rfl ?_
      refine gz_i2l gd_L_law_1259 ?_
      refine gz_lcmp gd_L_law_1260 ?_
      refine gz_if_eq (tgt := 1266) gd_L_law_1261 (by decide) (fun h1261 => ?_) (fun h1261 => ?_)
      ·
        refine gz_goto (tgt := 1511) gd_L_law_1266 (by decide) ?_
        exact k _ _ _ _ _ _ _ _ _ _ _ _ _ hR3.self (hC1.side (hR1.sd hO1) (fun j hj => hR3.2.2.2 j (by omega))) hT3 (hV.marked) ((hR3.2.2.2 2 (by omega)).trans h2b) ((hR3.2.2.2 113 (by omega)).trans hO1)
      ·
        exact absurd ((lg_cmp_eq _ _).2 rfl) h1261
  ·
    exact absurd rfl h1244

theorem lc_office {l : Launch} {D : gzD} {K : gzK} {M : gzM} {n nc ns : Nat} {b : Nat} {v : gV} {g : gG} {T : CT} {q : Nat} {S : gS} {L : gL} {f : Nat → Value} {len i : Nat} {sc : Nat → Int32} {a5 a6 a7 : Option Value} (hR : RF M S L M) (hC : RC M b v g T M n nc ns) (hT : Rel 12 true S T) (hV : IV T q) (hq : q < 512) (hD : RM D) (hb : b + 1000 ≤ 300000) (hls : l.stackTraces = false) (h2 : M 2 = some (.inl (0, len, fun j => .int (sc j)))) (hO : M 113 = some (.inl (2, 1, f))) (hi : i + 5 ≤ len) (hl : len ≤ 2560) (k : LK l D K len sc i (b + 560) (q + 1)) : GZ l P1 D F_L_law K 1269 [some (.ref 2), some (.ref 3), some (.ref 83), some (.ref 113), some (.int (nI i)), a5, a6, a7] [] M n nc ns := by
  refine gz_aload_n gd_L_law_1269 rfl rfl (gz_isr.r _) ?_
  refine gz_aload_n gd_L_law_1270 rfl rfl (gz_isr.r _) ?_
  refine gz_iload gd_L_law_1271 rfl ?_
  refine gz_iconst (v := 1) gd_L_law_1273 (by decide) ?_
  refine gq_iadd (z := nI (i + 1)) gd_L_law_1274 (nI_add i 1) ?_
  refine gz_iaload (i := i + 1) gd_L_law_1275 rfl h2 rfl (by omega) (by omega) rfl ?_
  refine gz_aload_n gd_L_law_1276 rfl rfl (gz_isr.r _) ?_
  refine gz_iload gd_L_law_1277 rfl ?_
  refine gz_iconst (v := 2) gd_L_law_1279 (by decide) ?_
  refine gq_iadd (z := nI (i + 2)) gd_L_law_1280 (nI_add i 2) ?_
  refine gz_iaload (i := i + 2) gd_L_law_1281 rfl h2 rfl (by omega) (by omega) rfl ?_
  refine gz_aload_n gd_L_law_1282 rfl rfl (gz_isr.r _) ?_
  refine gz_static4 gd_L_law_1283 gs_L_law_1283 (Nat.le_of_ble_eq_true rfl) (Nat.le_of_ble_eq_true rfl) ?_
  refine lw_office hC hD hb hls hV hq (hR.sd hO) hO (fun M1 n1 nc1 ns1 hW => ?_)
  obtain ⟨v1, g1, f1, hC1, hF1, h21, hO1, hA1⟩ := hW
  have hR1 := hR.mv hF1
  have h2b := h21.trans h2
  refine gz_istore gd_L_law_1286 (Nat.le_of_ble_eq_true rfl) rfl ?_
  refine gz_aload_n gd_L_law_1288 rfl rfl (gz_isr.r _) ?_
  refine gz_aload_n gd_L_law_1289 rfl rfl (gz_isr.r _) ?_
  refine gz_iload gd_L_law_1290 rfl ?_
  refine gz_iconst (v := 1) gd_L_law_1292 (by decide) ?_
  refine gq_iadd (z := nI (i + 1)) gd_L_law_1293 (nI_add i 1) ?_
  refine gz_iaload (i := i + 1) gd_L_law_1294 rfl h2b rfl (by omega) (by omega) rfl ?_
  refine gz_aload_n gd_L_law_1295 rfl rfl (gz_isr.r _) ?_
  refine gz_iload gd_L_law_1296 rfl ?_
  refine gz_iconst (v := 2) gd_L_law_1298 (by decide) ?_
  refine gq_iadd (z := nI (i + 2)) gd_L_law_1299 (nI_add i 2) ?_
  refine gz_iaload (i := i + 2) gd_L_law_1300 rfl h2b rfl (by omega) (by omega) rfl ?_
  refine gz_virtual2 gd_L_law_1301 hR1.1 rfl rfl gs_L_law_1301 (Nat.le_of_ble_eq_true rfl) (Nat.le_of_ble_eq_true rfl) ?_
  refine m_office hR1 hT hV.ji.1 (fun S2 M2 hR2 hT2 => ?_)
  refine gz_istore gd_L_law_1304 (Nat.le_of_ble_eq_true rfl) rfl ?_
  refine gz_aload_n gd_L_law_1306 rfl rfl (gz_isr.r _) ?_
  refine gz_virtual0 gd_L_law_1307 hR2.1 rfl rfl gs_L_law_1307 (Nat.le_of_ble_eq_true rfl) (Nat.le_of_ble_eq_true rfl) ?_
  refine m_thr hR2 hT2 (fun S3 M3 hR3 hT3 => ?_)
  refine gz_iload gd_L_law_1310 rfl ?_
  refine gz_icmp_eq (tgt := 1317) gd_L_law_1312 (by decide) (fun h1312 => ?_) (fun h1312 => ?_)
  ·
    refine gz_iload gd_L_law_1317 rfl ?_
    refine gz_if_ne (tgt := 1334) gd_L_law_1319 (by decide) (fun h1319 => ?_) (fun h1319 => ?_)
    ·
      refine gz_goto (tgt := 1511) gd_L_law_1334 (by decide) ?_
      exact k _ _ _ _ _ _ _ _ _ _ _ _ _ hR3.self (hC1.side (hR1.sd hO1) (fun j hj => hR3.2.2.2 j (by omega))) hT3 (hV.office) ((hR3.2.2.2 2 (by omega)).trans h2b) ((hR3.2.2.2 113 (by omega)).trans hO1)
    ·
      have hA := hA1 h1319
      have hO3 := (hR3.2.2.2 113 (by omega)).trans hO1
      refine gz_aload_n gd_L_law_1322 rfl rfl (gz_isr.r _) ?_
      refine gz_iconst (v := 0) gd_L_law_1323 (by decide) ?_
      refine gz_laload (i := 0) gd_L_law_1324 rfl hO3 rfl (by decide) (by decide) hA ?_
      refine gz_iload gd_L_law_1325 rfl ?_
      refine gz_i2l gd_L_law_1327 ?_
      refine gz_lcmp gd_L_law_1328 ?_
      refine gz_if_eq (tgt := 1334) gd_L_law_1329 (by decide) (fun h1329 => ?_) (fun h1329 => ?_)
      ·
        refine gz_goto (tgt := 1511) gd_L_law_1334 (by decide) ?_
        exact k _ _ _ _ _ _ _ _ _ _ _ _ _ hR3.self (hC1.side (hR1.sd hO1) (fun j hj => hR3.2.2.2 j (by omega))) hT3 (hV.office) ((hR3.2.2.2 2 (by omega)).trans h2b) ((hR3.2.2.2 113 (by omega)).trans hO1)
      ·
        exact absurd ((lg_cmp_eq _ _).2 rfl) h1329
  ·
    exact absurd rfl h1312

theorem lc_newest {l : Launch} {D : gzD} {K : gzK} {M : gzM} {n nc ns : Nat} {b : Nat} {v : gV} {g : gG} {T : CT} {q : Nat} {S : gS} {L : gL} {f : Nat → Value} {len i : Nat} {sc : Nat → Int32} {a5 a6 a7 : Option Value} (hR : RF M S L M) (hC : RC M b v g T M n nc ns) (hT : Rel 12 true S T) (hV : IV T q) (hq : q < 512) (hD : RM D) (hb : b + 1000 ≤ 300000) (hls : l.stackTraces = false) (h2 : M 2 = some (.inl (0, len, fun j => .int (sc j)))) (hO : M 113 = some (.inl (2, 1, f))) (hi : i + 5 ≤ len) (hl : len ≤ 2560) (k : LK l D K len sc i (b + 560) (q + 1)) : GZ l P1 D F_L_law K 1337 [some (.ref 2), some (.ref 3), some (.ref 83), some (.ref 113), some (.int (nI i)), a5, a6, a7] [] M n nc ns := by
  refine gz_aload_n gd_L_law_1337 rfl rfl (gz_isr.r _) ?_
  refine gz_aload_n gd_L_law_1338 rfl rfl (gz_isr.r _) ?_
  refine gz_iload gd_L_law_1339 rfl ?_
  refine gz_iconst (v := 1) gd_L_law_1341 (by decide) ?_
  refine gq_iadd (z := nI (i + 1)) gd_L_law_1342 (nI_add i 1) ?_
  refine gz_iaload (i := i + 1) gd_L_law_1343 rfl h2 rfl (by omega) (by omega) rfl ?_
  refine gz_aload_n gd_L_law_1344 rfl rfl (gz_isr.r _) ?_
  refine gz_static3 gd_L_law_1345 gs_L_law_1345 (Nat.le_of_ble_eq_true rfl) (Nat.le_of_ble_eq_true rfl) ?_
  refine lw_newest hC hD hb hls hV hq (hR.sd hO) hO (fun M1 n1 nc1 ns1 hW => ?_)
  obtain ⟨v1, g1, f1, hC1, hF1, h21, hO1, hA1⟩ := hW
  have hR1 := hR.mv hF1
  have h2b := h21.trans h2
  refine gz_istore gd_L_law_1348 (Nat.le_of_ble_eq_true rfl) rfl ?_
  refine gz_aload_n gd_L_law_1350 rfl rfl (gz_isr.r _) ?_
  refine gz_aload_n gd_L_law_1351 rfl rfl (gz_isr.r _) ?_
  refine gz_iload gd_L_law_1352 rfl ?_
  refine gz_iconst (v := 1) gd_L_law_1354 (by decide) ?_
  refine gq_iadd (z := nI (i + 1)) gd_L_law_1355 (nI_add i 1) ?_
  refine gz_iaload (i := i + 1) gd_L_law_1356 rfl h2b rfl (by omega) (by omega) rfl ?_
  refine gz_virtual1 gd_L_law_1357 hR1.1 rfl rfl gs_L_law_1357 (Nat.le_of_ble_eq_true rfl) (Nat.le_of_ble_eq_true rfl) ?_
  refine m_newest hR1 hT hV.ji.1 (fun S2 M2 hR2 hT2 => ?_)
  refine gz_istore gd_L_law_1360 (Nat.le_of_ble_eq_true rfl) rfl ?_
  refine gz_aload_n gd_L_law_1362 rfl rfl (gz_isr.r _) ?_
  refine gz_virtual0 gd_L_law_1363 hR2.1 rfl rfl gs_L_law_1363 (Nat.le_of_ble_eq_true rfl) (Nat.le_of_ble_eq_true rfl) ?_
  refine m_thr hR2 hT2 (fun S3 M3 hR3 hT3 => ?_)
  refine gz_iload gd_L_law_1366 rfl ?_
  refine gz_icmp_eq (tgt := 1373) gd_L_law_1368 (by decide) (fun h1368 => ?_) (fun h1368 => ?_)
  ·
    refine gz_iload gd_L_law_1373 rfl ?_
    refine gz_if_ne (tgt := 1390) gd_L_law_1375 (by decide) (fun h1375 => ?_) (fun h1375 => ?_)
    ·
      refine gz_goto (tgt := 1511) gd_L_law_1390 (by decide) ?_
      exact k _ _ _ _ _ _ _ _ _ _ _ _ _ hR3.self (hC1.side (hR1.sd hO1) (fun j hj => hR3.2.2.2 j (by omega))) hT3 (hV.newest) ((hR3.2.2.2 2 (by omega)).trans h2b) ((hR3.2.2.2 113 (by omega)).trans hO1)
    ·
      have hA := hA1 h1375
      have hO3 := (hR3.2.2.2 113 (by omega)).trans hO1
      refine gz_aload_n gd_L_law_1378 rfl rfl (gz_isr.r _) ?_
      refine gz_iconst (v := 0) gd_L_law_1379 (by decide) ?_
      refine gz_laload (i := 0) gd_L_law_1380 rfl hO3 rfl (by decide) (by decide) hA ?_
      refine gz_iload gd_L_law_1381 rfl ?_
      refine gz_i2l gd_L_law_1383 ?_
      refine gz_lcmp gd_L_law_1384 ?_
      refine gz_if_eq (tgt := 1390) gd_L_law_1385 (by decide) (fun h1385 => ?_) (fun h1385 => ?_)
      ·
        refine gz_goto (tgt := 1511) gd_L_law_1390 (by decide) ?_
        exact k _ _ _ _ _ _ _ _ _ _ _ _ _ hR3.self (hC1.side (hR1.sd hO1) (fun j hj => hR3.2.2.2 j (by omega))) hT3 (hV.newest) ((hR3.2.2.2 2 (by omega)).trans h2b) ((hR3.2.2.2 113 (by omega)).trans hO1)
      ·
        exact absurd ((lg_cmp_eq _ _).2 rfl) h1385
  ·
    exact absurd rfl h1368

theorem lc_seats {l : Launch} {D : gzD} {K : gzK} {M : gzM} {n nc ns : Nat} {b : Nat} {v : gV} {g : gG} {T : CT} {q : Nat} {S : gS} {L : gL} {f : Nat → Value} {len i : Nat} {sc : Nat → Int32} {a5 a6 a7 : Option Value} (hR : RF M S L M) (hC : RC M b v g T M n nc ns) (hT : Rel 12 true S T) (hV : IV T q) (hq : q < 512) (hD : RM D) (hb : b + 1000 ≤ 300000) (hls : l.stackTraces = false) (h2 : M 2 = some (.inl (0, len, fun j => .int (sc j)))) (hO : M 113 = some (.inl (2, 1, f))) (hi : i + 5 ≤ len) (hl : len ≤ 2560) (k : LK l D K len sc i (b + 560) (q + 1)) : GZ l P1 D F_L_law K 1393 [some (.ref 2), some (.ref 3), some (.ref 83), some (.ref 113), some (.int (nI i)), a5, a6, a7] [] M n nc ns := by
  refine gz_aload_n gd_L_law_1393 rfl rfl (gz_isr.r _) ?_
  refine gz_aload_n gd_L_law_1394 rfl rfl (gz_isr.r _) ?_
  refine gz_iload gd_L_law_1395 rfl ?_
  refine gz_iconst (v := 1) gd_L_law_1397 (by decide) ?_
  refine gq_iadd (z := nI (i + 1)) gd_L_law_1398 (nI_add i 1) ?_
  refine gz_iaload (i := i + 1) gd_L_law_1399 rfl h2 rfl (by omega) (by omega) rfl ?_
  refine gz_aload_n gd_L_law_1400 rfl rfl (gz_isr.r _) ?_
  refine gz_iload gd_L_law_1401 rfl ?_
  refine gz_iconst (v := 2) gd_L_law_1403 (by decide) ?_
  refine gq_iadd (z := nI (i + 2)) gd_L_law_1404 (nI_add i 2) ?_
  refine gz_iaload (i := i + 2) gd_L_law_1405 rfl h2 rfl (by omega) (by omega) rfl ?_
  refine gz_aload_n gd_L_law_1406 rfl rfl (gz_isr.r _) ?_
  refine gz_iload gd_L_law_1407 rfl ?_
  refine gz_iconst (v := 3) gd_L_law_1409 (by decide) ?_
  refine gq_iadd (z := nI (i + 3)) gd_L_law_1410 (nI_add i 3) ?_
  refine gz_iaload (i := i + 3) gd_L_law_1411 rfl h2 rfl (by omega) (by omega) rfl ?_
  refine gz_aload_n gd_L_law_1412 rfl rfl (gz_isr.r _) ?_
  refine gz_iload gd_L_law_1413 rfl ?_
  refine gz_iconst (v := 4) gd_L_law_1415 (by decide) ?_
  refine gq_iadd (z := nI (i + 4)) gd_L_law_1416 (nI_add i 4) ?_
  refine gz_iaload (i := i + 4) gd_L_law_1417 rfl h2 rfl (by omega) (by omega) rfl ?_
  refine gz_aload_n gd_L_law_1418 rfl rfl (gz_isr.r _) ?_
  refine gz_static6 gd_L_law_1419 gs_L_law_1419 (Nat.le_of_ble_eq_true rfl) (Nat.le_of_ble_eq_true rfl) ?_
  refine lw_seats hC hD hb hls hV hq (hR.sd hO) hO (fun M1 n1 nc1 ns1 hW => ?_)
  obtain ⟨v1, g1, f1, hC1, hF1, h21, hO1, hA1⟩ := hW
  have hR1 := hR.mv hF1
  have h2b := h21.trans h2
  refine gz_istore gd_L_law_1422 (Nat.le_of_ble_eq_true rfl) rfl ?_
  refine gz_aload_n gd_L_law_1424 rfl rfl (gz_isr.r _) ?_
  refine gz_aload_n gd_L_law_1425 rfl rfl (gz_isr.r _) ?_
  refine gz_iload gd_L_law_1426 rfl ?_
  refine gz_iconst (v := 1) gd_L_law_1428 (by decide) ?_
  refine gq_iadd (z := nI (i + 1)) gd_L_law_1429 (nI_add i 1) ?_
  refine gz_iaload (i := i + 1) gd_L_law_1430 rfl h2b rfl (by omega) (by omega) rfl ?_
  refine gz_aload_n gd_L_law_1431 rfl rfl (gz_isr.r _) ?_
  refine gz_iload gd_L_law_1432 rfl ?_
  refine gz_iconst (v := 2) gd_L_law_1434 (by decide) ?_
  refine gq_iadd (z := nI (i + 2)) gd_L_law_1435 (nI_add i 2) ?_
  refine gz_iaload (i := i + 2) gd_L_law_1436 rfl h2b rfl (by omega) (by omega) rfl ?_
  refine gz_aload_n gd_L_law_1437 rfl rfl (gz_isr.r _) ?_
  refine gz_iload gd_L_law_1438 rfl ?_
  refine gz_iconst (v := 3) gd_L_law_1440 (by decide) ?_
  refine gq_iadd (z := nI (i + 3)) gd_L_law_1441 (nI_add i 3) ?_
  refine gz_iaload (i := i + 3) gd_L_law_1442 rfl h2b rfl (by omega) (by omega) rfl ?_
  refine gz_aload_n gd_L_law_1443 rfl rfl (gz_isr.r _) ?_
  refine gz_iload gd_L_law_1444 rfl ?_
  refine gz_iconst (v := 4) gd_L_law_1446 (by decide) ?_
  refine gq_iadd (z := nI (i + 4)) gd_L_law_1447 (nI_add i 4) ?_
  refine gz_iaload (i := i + 4) gd_L_law_1448 rfl h2b rfl (by omega) (by omega) rfl ?_
  refine gz_virtual4 gd_L_law_1449 hR1.1 rfl rfl gs_L_law_1449 (Nat.le_of_ble_eq_true rfl) (Nat.le_of_ble_eq_true rfl) ?_
  refine m_seats hR1 hT hV.ji.1 (fun S2 L2 M2 hR2 hT2 => ?_)
  refine gz_istore gd_L_law_1452 (Nat.le_of_ble_eq_true rfl) rfl ?_
  refine gz_aload_n gd_L_law_1454 rfl rfl (gz_isr.r _) ?_
  refine gz_virtual0 gd_L_law_1455 hR2.1 rfl rfl gs_L_law_1455 (Nat.le_of_ble_eq_true rfl) (Nat.le_of_ble_eq_true rfl) ?_
  refine m_thr hR2 hT2 (fun S3 M3 hR3 hT3 => ?_)
  refine gz_iload gd_L_law_1458 rfl ?_
  refine gz_icmp_eq (tgt := 1465) gd_L_law_1460 (by decide) (fun h1460 => ?_) (fun h1460 => ?_)
  ·
    refine gz_iload gd_L_law_1465 rfl ?_
    refine gz_if_ne (tgt := 1482) gd_L_law_1467 (by decide) (fun h1467 => ?_) (fun h1467 => ?_)
    ·
      refine gz_goto (tgt := 1511) gd_L_law_1482 (by decide) ?_
      exact k _ _ _ _ _ _ _ _ _ _ _ _ _ hR3.self (hC1.side (hR1.sd hO1) (fun j hj => hR3.2.2.2 j (by omega))) hT3 (hV.seats) ((hR3.2.2.2 2 (by omega)).trans h2b) ((hR3.2.2.2 113 (by omega)).trans hO1)
    ·
      have hA := hA1 h1467
      have hO3 := (hR3.2.2.2 113 (by omega)).trans hO1
      refine gz_aload_n gd_L_law_1470 rfl rfl (gz_isr.r _) ?_
      refine gz_iconst (v := 0) gd_L_law_1471 (by decide) ?_
      refine gz_laload (i := 0) gd_L_law_1472 rfl hO3 rfl (by decide) (by decide) hA ?_
      refine gz_iload gd_L_law_1473 rfl ?_
      refine gz_i2l gd_L_law_1475 ?_
      refine gz_lcmp gd_L_law_1476 ?_
      refine gz_if_eq (tgt := 1482) gd_L_law_1477 (by decide) (fun h1477 => ?_) (fun h1477 => ?_)
      ·
        refine gz_goto (tgt := 1511) gd_L_law_1482 (by decide) ?_
        exact k _ _ _ _ _ _ _ _ _ _ _ _ _ hR3.self (hC1.side (hR1.sd hO1) (fun j hj => hR3.2.2.2 j (by omega))) hT3 (hV.seats) ((hR3.2.2.2 2 (by omega)).trans h2b) ((hR3.2.2.2 113 (by omega)).trans hO1)
      ·
        exact absurd ((lg_cmp_eq _ _).2 rfl) h1477
  ·
    exact absurd rfl h1460

theorem lc_atRest {l : Launch} {D : gzD} {K : gzK} {M : gzM} {n nc ns : Nat} {b : Nat} {v : gV} {g : gG} {T : CT} {q : Nat} {S : gS} {L : gL} {f : Nat → Value} {len i : Nat} {sc : Nat → Int32} {a5 a6 a7 : Option Value} (hR : RF M S L M) (hC : RC M b v g T M n nc ns) (hT : Rel 12 true S T) (hV : IV T q) (hq : q < 512) (hD : RM D) (hb : b + 1000 ≤ 300000) (hls : l.stackTraces = false) (h2 : M 2 = some (.inl (0, len, fun j => .int (sc j)))) (hO : M 113 = some (.inl (2, 1, f))) (hi : i + 5 ≤ len) (hl : len ≤ 2560) (k : LK l D K len sc i (b + 560) (q + 1)) : GZ l P1 D F_L_law K 1485 [some (.ref 2), some (.ref 3), some (.ref 83), some (.ref 113), some (.int (nI i)), a5, a6, a7] [] M n nc ns := by
  refine gz_aload_n gd_L_law_1485 rfl rfl (gz_isr.r _) ?_
  refine gz_virtual0 gd_L_law_1486 hC.1.house rfl rfl gs_L_law_1486 (Nat.le_of_ble_eq_true rfl) (Nat.le_of_ble_eq_true rfl) ?_
  refine h_atRest hC hD hb hls hV.ji.1 (fun v1 g1 M1 n1 nc1 ns1 hC0 hz => ?_)
  obtain ⟨v2, g2, f1, hC1, hF1, h21, hO1⟩ := wk_v hC0 (hR.sd hO) hO
  have hR1 := hR.mv hF1
  have h2b := h21.trans h2
  refine gz_aload_n gd_L_law_1489 rfl rfl (gz_isr.r _) ?_
  refine gz_virtual0 gd_L_law_1490 hR1.1 rfl rfl gs_L_law_1490 (Nat.le_of_ble_eq_true rfl) (Nat.le_of_ble_eq_true rfl) ?_
  refine m_isAtRest hR1 hT hV.ji (fun S2 M2 hR2 hT2 => ?_)
  refine gz_icmp_eq (tgt := 1511) gd_L_law_1493 (by decide) (fun h1493 => ?_) (fun h1493 => ?_)
  ·
    exact k _ _ _ _ _ _ _ _ _ _ _ _ _ hR2.self (hC1.side (hR1.sd hO1) (fun j hj => hR2.2.2.2 j (by omega))) hT2 (hV.atRest) ((hR2.2.2.2 2 (by omega)).trans h2b) ((hR2.2.2.2 113 (by omega)).trans hO1)
  ·
    exact absurd rfl h1493

theorem lc_astray {l : Launch} {D : gzD} {K : gzK} {M : gzM} {n nc ns : Nat} {b : Nat} {v : gV} {g : gG} {T : CT} {q : Nat} {S : gS} {L : gL} {f : Nat → Value} {len i : Nat} {sc : Nat → Int32} {a5 a6 a7 : Option Value} (hR : RF M S L M) (hC : RC M b v g T M n nc ns) (hT : Rel 12 true S T) (hV : IV T q) (hq : q < 512) (hD : RM D) (hb : b + 1000 ≤ 300000) (hls : l.stackTraces = false) (h2 : M 2 = some (.inl (0, len, fun j => .int (sc j)))) (hO : M 113 = some (.inl (2, 1, f))) (hi : i + 5 ≤ len) (hl : len ≤ 2560) (k : LK l D K len sc i (b + 560) (q + 1)) : GZ l P1 D F_L_law K 1498 [some (.ref 2), some (.ref 3), some (.ref 83), some (.ref 113), some (.int (nI i)), a5, a6, a7] [] M n nc ns := by
  refine gz_aload_n gd_L_law_1498 rfl rfl (gz_isr.r _) ?_
  refine gz_virtual0 gd_L_law_1499 hC.1.house rfl rfl gs_L_law_1499 (Nat.le_of_ble_eq_true rfl) (Nat.le_of_ble_eq_true rfl) ?_
  refine h_astray hC hD hb hls hV.ji.1 (fun o p j ho hp => hV.it.sc o p j ho hp) (fun o ho => hV.it.ns ho) (fun v1 g1 M1 n1 nc1 ns1 hC0 hz => ?_)
  obtain ⟨v2, g2, f1, hC1, hF1, h21, hO1⟩ := wk_v hC0 (hR.sd hO) hO
  have hR1 := hR.mv hF1
  have h2b := h21.trans h2
  refine gz_aload_n gd_L_law_1502 rfl rfl (gz_isr.r _) ?_
  refine gz_virtual0 gd_L_law_1503 hR1.1 rfl rfl gs_L_law_1503 (Nat.le_of_ble_eq_true rfl) (Nat.le_of_ble_eq_true rfl) ?_
  refine m_astray2 hR1 hT (fun S2 M2 hR2 hT2 => ?_)
  refine gz_icmp_eq (tgt := 1511) gd_L_law_1506 (by decide) (fun h1506 => ?_) (fun h1506 => ?_)
  ·
    exact k _ _ _ _ _ _ _ _ _ _ _ _ _ hR2.self (hC1.side (hR1.sd hO1) (fun j hj => hR2.2.2.2 j (by omega))) hT2 (hV.astray) ((hR2.2.2.2 2 (by omega)).trans h2b) ((hR2.2.2.2 113 (by omega)).trans hO1)
  ·
    exact absurd rfl h1506

