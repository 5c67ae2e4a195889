/-! The reference: inner methods. Printed by wip/whole/m2.py -/
theorem Rel.send {c : Nat} {S : gS} {T : CT} (h : Rel c true S T) (hN : T.post.length < 500) {o k p v : Nat} : Rel c true (gs_set (gs_set (gs_set (gs_set (gs_set (gs_set S 105 T.post.length (nI o)) 106 T.post.length (T.ep o)) 107 T.post.length (nI k)) 108 T.post.length (nI p)) 109 T.post.length (nI v)) 83 23 (nI (T.post.length + 1))) (T.w_post (T.post ++ [(o, T.ep o, k, p, v)])) := by
  refine Rel.r_post (Rel.j_ln (Rel.j_l109 (Rel.j_l108 (Rel.j_l107 (Rel.j_l106 (Rel.j_l105 h.x_post)))))) ?_ ?_
  · rw [gs_same]
    simp
  · intro i x hi hx
    by_cases e : i < T.post.length
    · rw [List.getElem?_append_left e] at hx
      have := h.post rfl i x hi hx
      simpa [gs_set, Nat.ne_of_lt e] using this
    · have e2 : i = T.post.length := by
        have := (List.getElem?_eq_some_iff.1 hx).1
        simp at this
        omega
      subst e2
      simp at hx
      subst hx
      simp [gs_set]
theorem Rel.tell {c : Nat} {b : Bool} {S : gS} {T : CT} (h : Rel c b S T) {o p v : Nat} (ho : o < 12) (hl : (T.line o).length < 9000) : Rel c b (gs_set (gs_set (gs_set S 99 (9000 * o + (T.line o).length) (nI p)) 100 (9000 * o + (T.line o).length) (nI v)) 98 o (nI ((T.line o).length + 1))) (T.w_line (ct1 T.line o (T.line o ++ [(p, v)]))) := by
  refine Rel.s_line (Rel.j_lineV (Rel.j_lineP h ho hl (Nat.le_refl _)) ho hl (Nat.le_refl _)) (by simp) ?_
  intro i x hi hx
  by_cases e : i < (T.line o).length
  · rw [List.getElem?_append_left e] at hx
    have := h.line o i x ho hi hx
    simpa [gs_set, Nat.ne_of_lt e] using this
  · have e2 : i = (T.line o).length := by
      have := (List.getElem?_eq_some_iff.1 hx).1
      simp at this
      omega
    subst e2
    simp at hx
    subst hx
    simp [gs_set]
theorem m_maySet {l : Launch} {D : gzD} {K : gzK} {M : gzM} {n nc ns : Nat} {M0 : gzM} {S : gS} {L : gL} {T : CT} {c : Nat} (hR : RF M0 S L M) (hT : Rel c true S T) {o p j : Nat} (ho : o < 12) (hp : p < 40) (hj : j < 12) (hS : T.shown o p ≤ 300) (hQ : ∀ i, T.src o p = some i → i < 12) (k : K (.inl (some (.int (bI (y_may T o p j))))) M n nc ns) : GZ l P1 D F_M_maySet K 0 [some (.ref 83), some (.int (nI o)), some (.int (nI p)), some (.int (nI j))] [] M n nc ns := by
  refine gz_aload_n gd_M_maySet_0 rfl rfl (gz_isr.r _) ?_
  refine md_getf gd_M_maySet_1 gf_M_44 hR rfl ?_
  refine gz_bipush (v := 40) gd_M_maySet_4 (by decide) ?_
  refine gz_iload_n gd_M_maySet_6 rfl rfl ?_
  refine gq_imul (z := nI (40 * o)) gd_M_maySet_7 (pk_mul 40 o) ?_
  refine gz_iload_n gd_M_maySet_8 rfl rfl ?_
  refine gq_iadd (z := nI (40 * o + p)) gd_M_maySet_9 (nI_add (40 * o) p) ?_
  refine mt_iaload (a := 95) (i := 40 * o + p) gd_M_maySet_10 hR rfl rfl (show _ < 480 from (by omega)) (hT.shown o p (by omega) (by omega)) ?_
  refine gz_if_eq (tgt := 29) gd_M_maySet_11 (by decide) (fun h11 => ?_) (fun h11 => ?_)
  ·
    replace h11 := (nI_z (by omega)).1 h11
    refine gz_iconst (v := 1) gd_M_maySet_29 (by decide) ?_
    refine gz_goto (tgt := 34) gd_M_maySet_30 (by decide) ?_
    refine gz_ireturn gd_M_maySet_34 rfl rfl ?_
    have e : y_may T o p j = true := by simp [y_may, h11]
    rw [e] at k
    exact k
  ·
    replace h11 := mt (nI_z (by omega)).2 h11
    refine gz_aload_n gd_M_maySet_14 rfl rfl (gz_isr.r _) ?_
    refine md_getf gd_M_maySet_15 gf_M_47 hR rfl ?_
    refine gz_bipush (v := 40) gd_M_maySet_18 (by decide) ?_
    refine gz_iload_n gd_M_maySet_20 rfl rfl ?_
    refine gq_imul (z := nI (40 * o)) gd_M_maySet_21 (pk_mul 40 o) ?_
    refine gz_iload_n gd_M_maySet_22 rfl rfl ?_
    refine gq_iadd (z := nI (40 * o + p)) gd_M_maySet_23 (nI_add (40 * o) p) ?_
    refine mt_iaload (a := 96) (i := 40 * o + p) gd_M_maySet_24 hR rfl rfl (show _ < 480 from (by omega)) (hT.src o p (by omega) (by omega)) ?_
    refine gz_iload_n gd_M_maySet_25 rfl rfl ?_
    refine gz_icmp_ne (tgt := 33) gd_M_maySet_26 (by decide) (fun h26 => ?_) (fun h26 => ?_)
    ·
      replace h26 := mt (oI_eq (o := j) hQ (by omega)).2 h26
      refine gz_iconst (v := 0) gd_M_maySet_33 (by decide) ?_
      refine gz_ireturn gd_M_maySet_34 rfl rfl ?_
      have e : y_may T o p j = false := by simp [y_may, h11, h26]
      rw [e] at k
      exact k
    ·
      replace h26 := (oI_eq (o := j) hQ (by omega)).1 h26
      refine gz_iconst (v := 1) gd_M_maySet_29 (by decide) ?_
      refine gz_goto (tgt := 34) gd_M_maySet_30 (by decide) ?_
      refine gz_ireturn gd_M_maySet_34 rfl rfl ?_
      have e : y_may T o p j = true := by simp [y_may, h11, h26]
      rw [e] at k
      exact k

theorem m_send {l : Launch} {D : gzD} {K : gzK} {M : gzM} {n nc ns : Nat} {M0 : gzM} {S : gS} {L : gL} {T : CT} {c : Nat} (hR : RF M0 S L M) (hT : Rel c true S T) {o j : Nat} {x : Nat × Nat} (ho : o < 12) (hj : j < 9000) (hN : T.post.length ≤ 500) (hx : (T.line o)[j]? = some x) (k : ∀ S M {r : Int32}, RF M0 S L M → Rel c true S (y_send T o (j + 1) x) → r = bI (decide (T.post.length < 500)) → K (.inl (some (.int r))) M n nc ns) : GZ l P1 D F_M_send K 0 [some (.ref 83), some (.int (nI o)), some (.int (nI (j + 1)))] [] M n nc ns := by
  refine gz_aload_n gd_M_send_0 rfl rfl (gz_isr.r _) ?_
  refine mt_geti gd_M_send_1 gf_M_112 hR rfl (show _ = nI T.post.length from (hT.postN rfl)) ?_
  refine gz_sipush (v := 500) gd_M_send_4 (by decide) ?_
  refine gz_icmp_ne (tgt := 12) gd_M_send_7 (by decide) (fun h7 => ?_) (fun h7 => ?_)
  ·
    replace h7 := mt (nI_eq (a := T.post.length) (b := 500) (by omega) (by omega)).2 h7
    refine gz_aload_n gd_M_send_12 rfl rfl (gz_isr.r _) ?_
    refine md_getf gd_M_send_13 gf_M_75 hR rfl ?_
    refine gz_aload_n gd_M_send_16 rfl rfl (gz_isr.r _) ?_
    refine mt_geti gd_M_send_17 gf_M_112 hR rfl (show _ = nI T.post.length from (hT.postN rfl)) ?_
    refine gz_iload_n gd_M_send_20 rfl rfl ?_
    refine md_iastore (a := 105) (i := T.post.length) gd_M_send_21 hR rfl rfl rfl (show _ < 501 from (by omega)) (fun M hR => ?_)
    refine gz_aload_n gd_M_send_22 rfl rfl (gz_isr.r _) ?_
    refine md_getf gd_M_send_23 gf_M_78 hR rfl ?_
    refine gz_aload_n gd_M_send_26 rfl rfl (gz_isr.r _) ?_
    refine mt_geti gd_M_send_27 gf_M_112 hR rfl (show _ = nI T.post.length from (hT.postN rfl)) ?_
    refine gz_aload_n gd_M_send_30 rfl rfl (gz_isr.r _) ?_
    refine md_getf gd_M_send_31 gf_M_41 hR rfl ?_
    refine gz_iload_n gd_M_send_34 rfl rfl ?_
    refine mt_iaload (a := 94) (i := o) gd_M_send_35 hR rfl rfl (show _ < 12 from (by omega)) (hT.ep o (by omega)) ?_
    refine md_iastore (a := 106) (i := T.post.length) gd_M_send_36 hR rfl rfl rfl (show _ < 501 from (by omega)) (fun M hR => ?_)
    refine gz_aload_n gd_M_send_37 rfl rfl (gz_isr.r _) ?_
    refine md_getf gd_M_send_38 gf_M_81 hR rfl ?_
    refine gz_aload_n gd_M_send_41 rfl rfl (gz_isr.r _) ?_
    refine mt_geti gd_M_send_42 gf_M_112 hR rfl (show _ = nI T.post.length from (hT.postN rfl)) ?_
    refine gz_iload_n gd_M_send_45 rfl rfl ?_
    refine md_iastore (a := 107) (i := T.post.length) gd_M_send_46 hR rfl rfl rfl (show _ < 501 from (by omega)) (fun M hR => ?_)
    refine gz_aload_n gd_M_send_47 rfl rfl (gz_isr.r _) ?_
    refine md_getf gd_M_send_48 gf_M_84 hR rfl ?_
    refine gz_aload_n gd_M_send_51 rfl rfl (gz_isr.r _) ?_
    refine mt_geti gd_M_send_52 gf_M_112 hR rfl (show _ = nI T.post.length from (hT.postN rfl)) ?_
    refine gz_aload_n gd_M_send_55 rfl rfl (gz_isr.r _) ?_
    refine md_getf gd_M_send_56 gf_M_57 hR rfl ?_
    refine gz_sipush (v := 9000) gd_M_send_59 (by decide) ?_
    refine gz_iload_n gd_M_send_62 rfl rfl ?_
    refine gq_imul (z := nI (9000 * o)) gd_M_send_63 (pk_mul 9000 o) ?_
    refine gz_iload_n gd_M_send_64 rfl rfl ?_
    refine gq_iadd (z := nI (9000 * o + j + 1)) gd_M_send_65 (nI_add (9000 * o) (j + 1)) ?_
    refine gz_iconst (v := 1) gd_M_send_66 (by decide) ?_
    refine gq_isub (z := nI (9000 * o + j)) gd_M_send_67 (nI_pred (9000 * o + j)) ?_
    refine mt_iaload (a := 99) (i := 9000 * o + j) gd_M_send_68 hR rfl rfl (show _ < 108000 from (by omega)) (hT.line o j x ho hj hx).1 ?_
    refine md_iastore (a := 108) (i := T.post.length) gd_M_send_69 hR rfl rfl rfl (show _ < 501 from (by omega)) (fun M hR => ?_)
    refine gz_aload_n gd_M_send_70 rfl rfl (gz_isr.r _) ?_
    refine md_getf gd_M_send_71 gf_M_87 hR rfl ?_
    refine gz_aload_n gd_M_send_74 rfl rfl (gz_isr.r _) ?_
    refine mt_geti gd_M_send_75 gf_M_112 hR rfl (show _ = nI T.post.length from (hT.postN rfl)) ?_
    refine gz_aload_n gd_M_send_78 rfl rfl (gz_isr.r _) ?_
    refine md_getf gd_M_send_79 gf_M_60 hR rfl ?_
    refine gz_sipush (v := 9000) gd_M_send_82 (by decide) ?_
    refine gz_iload_n gd_M_send_85 rfl rfl ?_
    refine gq_imul (z := nI (9000 * o)) gd_M_send_86 (pk_mul 9000 o) ?_
    refine gz_iload_n gd_M_send_87 rfl rfl ?_
    refine gq_iadd (z := nI (9000 * o + j + 1)) gd_M_send_88 (nI_add (9000 * o) (j + 1)) ?_
    refine gz_iconst (v := 1) gd_M_send_89 (by decide) ?_
    refine gq_isub (z := nI (9000 * o + j)) gd_M_send_90 (nI_pred (9000 * o + j)) ?_
    refine mt_iaload (a := 100) (i := 9000 * o + j) gd_M_send_91 hR rfl rfl (show _ < 108000 from (by omega)) (hT.line o j x ho hj hx).2 ?_
    refine md_iastore (a := 109) (i := T.post.length) gd_M_send_92 hR rfl rfl rfl (show _ < 501 from (by omega)) (fun M hR => ?_)
    refine gz_aload_n gd_M_send_93 rfl rfl (gz_isr.r _) ?_
    refine gz_dup gd_M_send_94 rfl ?_
    refine mt_geti gd_M_send_95 gf_M_112 hR rfl (show _ = nI T.post.length from (hT.postN rfl)) ?_
    refine gz_iconst (v := 1) gd_M_send_98 (by decide) ?_
    refine gq_iadd (z := nI (T.post.length + 1)) gd_M_send_99 (nI_add T.post.length 1) ?_
    refine mt_puti (T := y_send T o (j + 1) x) gd_M_send_100 gf_M_112 gr_M_send_6_23 hR rfl (by rw [y_send, if_pos (by omega)]; exact hT.send (by omega)) (fun S M hR hT => ?_)
    refine gz_iconst (v := 1) gd_M_send_103 (by decide) ?_
    refine gz_ireturn gd_M_send_104 rfl rfl ?_
    exact k _ _ hR hT (by rw [decide_eq_true (by omega)]; rfl)
  ·
    replace h7 := (nI_eq (a := T.post.length) (b := 500) (by omega) (by omega)).1 h7
    refine gz_iconst (v := 0) gd_M_send_10 (by decide) ?_
    refine gz_ireturn gd_M_send_11 rfl rfl ?_
    exact k _ _ hR (by rw [y_send, if_neg (by omega)]; exact hT) (by rw [decide_eq_false (by omega)]; rfl)

theorem m_tell {l : Launch} {D : gzD} {K : gzK} {M : gzM} {n nc ns : Nat} {M0 : gzM} {S : gS} {L : gL} {T : CT} {c : Nat} (hR : RF M0 S L M) (hT : Rel c true S T) {o p v : Nat} (ho : o < 12) (hl : (T.line o).length < 9000) (hN : T.post.length ≤ 500) (k : ∀ S M, RF M0 S L M → Rel c true S (y_tell T o p v) → K (.inl none) M n nc ns) : GZ l P1 D F_M_tell K 0 [some (.ref 83), some (.int (nI o)), some (.int (nI p)), some (.int (nI v)), none] [] M n nc ns := by
  refine gz_aload_n gd_M_tell_0 rfl rfl (gz_isr.r _) ?_
  refine md_getf gd_M_tell_1 gf_M_57 hR rfl ?_
  refine gz_sipush (v := 9000) gd_M_tell_4 (by decide) ?_
  refine gz_iload_n gd_M_tell_7 rfl rfl ?_
  refine gq_imul (z := nI (9000 * o)) gd_M_tell_8 (pk_mul 9000 o) ?_
  refine gz_aload_n gd_M_tell_9 rfl rfl (gz_isr.r _) ?_
  refine md_getf gd_M_tell_10 gf_M_53 hR rfl ?_
  refine gz_iload_n gd_M_tell_13 rfl rfl ?_
  refine mt_iaload (a := 98) (i := o) gd_M_tell_14 hR rfl rfl (show _ < 12 from (by omega)) (hT.lineN o (by omega)) ?_
  refine gq_iadd (z := nI (9000 * o + (T.line o).length)) gd_M_tell_15 (nI_add (9000 * o) ((T.line o).length)) ?_
  refine gz_iload_n gd_M_tell_16 rfl rfl ?_
  refine md_iastore (a := 99) (i := 9000 * o + (T.line o).length) gd_M_tell_17 hR rfl rfl rfl (show _ < 108000 from (by omega)) (fun M hR => ?_)
  refine gz_aload_n gd_M_tell_18 rfl rfl (gz_isr.r _) ?_
  refine md_getf gd_M_tell_19 gf_M_60 hR rfl ?_
  refine gz_sipush (v := 9000) gd_M_tell_22 (by decide) ?_
  refine gz_iload_n gd_M_tell_25 rfl rfl ?_
  refine gq_imul (z := nI (9000 * o)) gd_M_tell_26 (pk_mul 9000 o) ?_
  refine gz_aload_n gd_M_tell_27 rfl rfl (gz_isr.r _) ?_
  refine md_getf gd_M_tell_28 gf_M_53 hR rfl ?_
  refine gz_iload_n gd_M_tell_31 rfl rfl ?_
  refine mt_iaload (a := 98) (i := o) gd_M_tell_32 hR rfl rfl (show _ < 12 from (by omega)) (hT.lineN o (by omega)) ?_
  refine gq_iadd (z := nI (9000 * o + (T.line o).length)) gd_M_tell_33 (nI_add (9000 * o) ((T.line o).length)) ?_
  refine gz_iload_n gd_M_tell_34 rfl rfl ?_
  refine md_iastore (a := 100) (i := 9000 * o + (T.line o).length) gd_M_tell_35 hR rfl rfl rfl (show _ < 108000 from (by omega)) (fun M hR => ?_)
  refine gz_aload_n gd_M_tell_36 rfl rfl (gz_isr.r _) ?_
  refine md_getf gd_M_tell_37 gf_M_53 hR rfl ?_
  refine gz_iload_n gd_M_tell_40 rfl rfl ?_
  refine gz_dup2 gd_M_tell_41 rfl rfl ?_
  refine mt_iaload (a := 98) (i := o) gd_M_tell_42 hR rfl rfl (show _ < 12 from (by omega)) (hT.lineN o (by omega)) ?_
  refine gz_iconst (v := 1) gd_M_tell_43 (by decide) ?_
  refine gq_iadd (z := nI ((T.line o).length + 1)) gd_M_tell_44 (nI_add ((T.line o).length) 1) ?_
  refine mt_iastore (T := T.w_line (ct1 T.line o (T.line o ++ [(p, v)]))) (a := 98) (i := o) gd_M_tell_45 hR rfl rfl (show _ < 12 from (by omega)) (hT.tell ho hl) (fun S M hR hT => ?_)
  refine gz_aload_n gd_M_tell_46 rfl rfl (gz_isr.r _) ?_
  refine gz_iload_n gd_M_tell_47 rfl rfl ?_
  refine gz_aload_n gd_M_tell_48 rfl rfl (gz_isr.r _) ?_
  refine md_getf gd_M_tell_49 gf_M_53 hR rfl ?_
  refine gz_iload_n gd_M_tell_52 rfl rfl ?_
  refine mt_iaload (a := 98) (i := o) gd_M_tell_53 hR rfl rfl (show _ < 12 from (by omega)) (show _ = nI ((T.line o).length + 1) from by rw [hT.lineN o ho]; show nI (ct1 T.line o _ o).length = _; rw [ct1_s]; simp) ?_
  refine gz_virtual2 gd_M_tell_54 hR.1 rfl rfl gs_M_tell_54 (Nat.le_of_ble_eq_true rfl) (Nat.le_of_ble_eq_true rfl) ?_
  refine m_send (j := (T.line o).length) (x := (p, v)) hR hT ho (by omega) hN (by show (ct1 T.line o (T.line o ++ [(p, v)]) o)[_]? = _; rw [ct1_s]; simp) (fun S M r hR hT hr => ?_)
  refine gz_istore gd_M_tell_57 (Nat.le_of_ble_eq_true rfl) rfl ?_
  refine gz_return gd_M_tell_59 rfl ?_
  exact k _ _ hR hT

theorem m_set {l : Launch} {D : gzD} {K : gzK} {M : gzM} {n nc ns : Nat} {M0 : gzM} {S : gS} {L : gL} {T : CT} {c : Nat} (hR : RF M0 S L M) (hT : Rel c true S T) {o p v : Nat} {f : Int32} {s : Option Nat} (ho : o < 12) (hp : p < 40) (hv : v ≤ 300) (hs : v = 0 → s = none) (hf : ¬ v = 0 → f = oI s) (hP : ∀ i, T.par o = some i → i < 12) (hL : (T.line o).length < 9000) (hN : T.post.length ≤ 500) (k : ∀ S M, RF M0 S L M → Rel c true S (y_set T o p v s) → K (.inl none) M n nc ns) : GZ l P1 D F_M_set K 0 [some (.ref 83), some (.int (nI o)), some (.int (nI p)), some (.int (nI v)), some (.int f)] [] M n nc ns := by
  refine gz_aload_n gd_M_set_0 rfl rfl (gz_isr.r _) ?_
  refine md_getf gd_M_set_1 gf_M_44 hR rfl ?_
  refine gz_bipush (v := 40) gd_M_set_4 (by decide) ?_
  refine gz_iload_n gd_M_set_6 rfl rfl ?_
  refine gq_imul (z := nI (40 * o)) gd_M_set_7 (pk_mul 40 o) ?_
  refine gz_iload_n gd_M_set_8 rfl rfl ?_
  refine gq_iadd (z := nI (40 * o + p)) gd_M_set_9 (nI_add (40 * o) p) ?_
  refine gz_iload_n gd_M_set_10 rfl rfl ?_
  refine mt_iastore (T := T.w_shown (ct2 T.shown o p v)) (a := 95) (i := 40 * o + p) gd_M_set_11 hR rfl rfl (show _ < 480 from (by omega)) (hT.s_shown ho hp rfl) (fun S M hR hT => ?_)
  refine gz_aload_n gd_M_set_12 rfl rfl (gz_isr.r _) ?_
  refine md_getf gd_M_set_13 gf_M_47 hR rfl ?_
  refine gz_bipush (v := 40) gd_M_set_16 (by decide) ?_
  refine gz_iload_n gd_M_set_18 rfl rfl ?_
  refine gq_imul (z := nI (40 * o)) gd_M_set_19 (pk_mul 40 o) ?_
  refine gz_iload_n gd_M_set_20 rfl rfl ?_
  refine gq_iadd (z := nI (40 * o + p)) gd_M_set_21 (nI_add (40 * o) p) ?_
  refine gz_iload_n gd_M_set_22 rfl rfl ?_
  refine gz_if_ne (tgt := 30) gd_M_set_23 (by decide) (fun h23 => ?_) (fun h23 => ?_)
  ·
    replace h23 := mt (nI_z (by omega)).2 h23
    refine gz_iload gd_M_set_30 rfl ?_
    refine mt_iastore (T := y_put T o p v s) (a := 96) (i := 40 * o + p) gd_M_set_32 hR rfl rfl (show _ < 480 from (by omega)) (hT.s_src ho hp (hf h23)) (fun S M hR hT => ?_)
    refine gz_aload_n gd_M_set_33 rfl rfl (gz_isr.r _) ?_
    refine md_getf gd_M_set_34 gf_M_38 hR rfl ?_
    refine gz_iload_n gd_M_set_37 rfl rfl ?_
    refine mt_iaload (a := 93) (i := o) gd_M_set_38 hR rfl rfl (show _ < 12 from (by omega)) (hT.par o (by omega)) ?_
    refine gz_if_lt (tgt := 49) gd_M_set_39 (by decide) (fun h39 => ?_) (fun h39 => ?_)
    ·
      replace h39 := (oI_lt hP).1 h39
      refine gz_return gd_M_set_49 rfl ?_
      exact k _ _ hR (by rw [y_set, show T.par o = none from h39, if_neg (fun z => by cases z)]; exact hT)
    ·
      replace h39 := mt (oI_lt hP).2 h39
      refine gz_aload_n gd_M_set_42 rfl rfl (gz_isr.r _) ?_
      refine gz_iload_n gd_M_set_43 rfl rfl ?_
      refine gz_iload_n gd_M_set_44 rfl rfl ?_
      refine gz_iload_n gd_M_set_45 rfl rfl ?_
      refine gz_virtual3 gd_M_set_46 hR.1 rfl rfl gs_M_set_46 (Nat.le_of_ble_eq_true rfl) (Nat.le_of_ble_eq_true rfl) ?_
      refine m_tell (T := (y_put T o p v s)) (o := o) (p := p) (v := v) hR hT (by omega) hL hN (fun S M hR hT => ?_)
      refine gz_return gd_M_set_49 rfl ?_
      exact k _ _ hR (by rw [y_set, if_pos (Option.isSome_iff_ne_none.2 h39)]; exact hT)
  ·
    replace h23 := (nI_z (by omega)).1 h23
    refine gz_iconst (v := -1) gd_M_set_26 (by decide) ?_
    refine gz_goto (tgt := 32) gd_M_set_27 (by decide) ?_
    refine mt_iastore (T := y_put T o p v s) (a := 96) (i := 40 * o + p) gd_M_set_32 hR rfl rfl (show _ < 480 from (by omega)) (hT.s_src ho hp (by rw [hs h23]; rfl)) (fun S M hR hT => ?_)
    refine gz_aload_n gd_M_set_33 rfl rfl (gz_isr.r _) ?_
    refine md_getf gd_M_set_34 gf_M_38 hR rfl ?_
    refine gz_iload_n gd_M_set_37 rfl rfl ?_
    refine mt_iaload (a := 93) (i := o) gd_M_set_38 hR rfl rfl (show _ < 12 from (by omega)) (hT.par o (by omega)) ?_
    refine gz_if_lt (tgt := 49) gd_M_set_39 (by decide) (fun h39 => ?_) (fun h39 => ?_)
    ·
      replace h39 := (oI_lt hP).1 h39
      refine gz_return gd_M_set_49 rfl ?_
      exact k _ _ hR (by rw [y_set, show T.par o = none from h39, if_neg (fun z => by cases z)]; exact hT)
    ·
      replace h39 := mt (oI_lt hP).2 h39
      refine gz_aload_n gd_M_set_42 rfl rfl (gz_isr.r _) ?_
      refine gz_iload_n gd_M_set_43 rfl rfl ?_
      refine gz_iload_n gd_M_set_44 rfl rfl ?_
      refine gz_iload_n gd_M_set_45 rfl rfl ?_
      refine gz_virtual3 gd_M_set_46 hR.1 rfl rfl gs_M_set_46 (Nat.le_of_ble_eq_true rfl) (Nat.le_of_ble_eq_true rfl) ?_
      refine m_tell (T := (y_put T o p v s)) (o := o) (p := p) (v := v) hR hT (by omega) hL hN (fun S M hR hT => ?_)
      refine gz_return gd_M_set_49 rfl ?_
      exact k _ _ hR (by rw [y_set, if_pos (Option.isSome_iff_ne_none.2 h39)]; exact hT)

theorem m_unset {l : Launch} {D : gzD} {K : gzK} {M : gzM} {n nc ns : Nat} {M0 : gzM} {S : gS} {L : gL} {T : CT} {c : Nat} (hR : RF M0 S L M) (hT : Rel c true S T) {o p j : Nat} (ho : o < 12) (hp : p < 40) (hj : j < 12) (hS : T.shown o p ≤ 300) (hZ : T.shown o p = 0 ↔ T.src o p = none) (hQ : ∀ i, T.src o p = some i → i < 12) (hP : ∀ i, T.par o = some i → i < 12) (hL : (T.line o).length < 9000) (hN : T.post.length ≤ 500) (k : ∀ S M, RF M0 S L M → Rel c true S (y_unset T o p j) → K (.inl none) M n nc ns) : GZ l P1 D F_M_unset K 0 [some (.ref 83), some (.int (nI o)), some (.int (nI p)), some (.int (nI j))] [] M n nc ns := by
  refine gz_aload_n gd_M_unset_0 rfl rfl (gz_isr.r _) ?_
  refine md_getf gd_M_unset_1 gf_M_44 hR rfl ?_
  refine gz_bipush (v := 40) gd_M_unset_4 (by decide) ?_
  refine gz_iload_n gd_M_unset_6 rfl rfl ?_
  refine gq_imul (z := nI (40 * o)) gd_M_unset_7 (pk_mul 40 o) ?_
  refine gz_iload_n gd_M_unset_8 rfl rfl ?_
  refine gq_iadd (z := nI (40 * o + p)) gd_M_unset_9 (nI_add (40 * o) p) ?_
  refine mt_iaload (a := 95) (i := 40 * o + p) gd_M_unset_10 hR rfl rfl (show _ < 480 from (by omega)) (hT.shown o p (by omega) (by omega)) ?_
  refine gz_if_le (tgt := 37) gd_M_unset_11 (by decide) (fun h11 => ?_) (fun h11 => ?_)
  ·
    replace h11 := (nI_le0 (by omega)).1 h11
    refine gz_return gd_M_unset_37 rfl ?_
    exact k _ _ hR (by rw [y_unset, show T.src o p = none from hZ.1 h11, if_neg (fun z => by cases z)]; exact hT)
  ·
    replace h11 := mt (nI_le0 (by omega)).2 h11
    refine gz_aload_n gd_M_unset_14 rfl rfl (gz_isr.r _) ?_
    refine md_getf gd_M_unset_15 gf_M_47 hR rfl ?_
    refine gz_bipush (v := 40) gd_M_unset_18 (by decide) ?_
    refine gz_iload_n gd_M_unset_20 rfl rfl ?_
    refine gq_imul (z := nI (40 * o)) gd_M_unset_21 (pk_mul 40 o) ?_
    refine gz_iload_n gd_M_unset_22 rfl rfl ?_
    refine gq_iadd (z := nI (40 * o + p)) gd_M_unset_23 (nI_add (40 * o) p) ?_
    refine mt_iaload (a := 96) (i := 40 * o + p) gd_M_unset_24 hR rfl rfl (show _ < 480 from (by omega)) (hT.src o p (by omega) (by omega)) ?_
    refine gz_iload_n gd_M_unset_25 rfl rfl ?_
    refine gz_icmp_ne (tgt := 37) gd_M_unset_26 (by decide) (fun h26 => ?_) (fun h26 => ?_)
    ·
      replace h26 := mt (oI_eq (o := j) hQ (by omega)).2 h26
      refine gz_return gd_M_unset_37 rfl ?_
      exact k _ _ hR (by rw [y_unset, if_neg h26]; exact hT)
    ·
      replace h26 := (oI_eq (o := j) hQ (by omega)).1 h26
      refine gz_aload_n gd_M_unset_29 rfl rfl (gz_isr.r _) ?_
      refine gz_iload_n gd_M_unset_30 rfl rfl ?_
      refine gz_iload_n gd_M_unset_31 rfl rfl ?_
      refine gz_iconst (v := 0) gd_M_unset_32 (by decide) ?_
      refine gz_iconst (v := -1) gd_M_unset_33 (by decide) ?_
      refine gz_virtual4 gd_M_unset_34 hR.1 rfl rfl gs_M_unset_34 (Nat.le_of_ble_eq_true rfl) (Nat.le_of_ble_eq_true rfl) ?_
      refine m_set (T := T) (o := o) (p := p) (v := 0) (s := none) hR hT (by omega) (by omega) (by omega) (fun _ => rfl) (fun z => absurd rfl z) hP hL hN (fun S M hR hT => ?_)
      refine gz_return gd_M_unset_37 rfl ?_
      exact k _ _ hR (by rw [y_unset, if_pos h26]; exact hT)

theorem m_setsOwn {l : Launch} {D : gzD} {K : gzK} {M : gzM} {n nc ns : Nat} {M0 : gzM} {S : gS} {L : gL} {T : CT} {c : Nat} (hR : RF M0 S L M) (hT : Rel c true S T) {o p : Nat} (ho : o < 12) (hp : p < 40) (hS : T.shown o p ≤ 300) (hQ : ∀ i, T.src o p = some i → i < 12) (hP : ∀ i, T.par o = some i → i < 12) (hV : T.last p ≤ 300) (hV0 : 0 < T.last p) (hL : (T.line o).length < 9000) (hN : T.post.length ≤ 500) (k : ∀ S M, RF M0 S L M → Rel c true S (y_own T o p) → K (.inl (some (.int (bI (y_may T o p o))))) M n nc ns) : GZ l P1 D F_M_setsOwn K 0 [some (.ref 83), some (.int (nI o)), some (.int (nI p)), none] [] M n nc ns := by
  refine gz_aload_n gd_M_setsOwn_0 rfl rfl (gz_isr.r _) ?_
  refine gz_iload_n gd_M_setsOwn_1 rfl rfl ?_
  refine gz_iload_n gd_M_setsOwn_2 rfl rfl ?_
  refine gz_iload_n gd_M_setsOwn_3 rfl rfl ?_
  refine gz_virtual3 gd_M_setsOwn_4 hR.1 rfl rfl gs_M_setsOwn_4 (Nat.le_of_ble_eq_true rfl) (Nat.le_of_ble_eq_true rfl) ?_
  refine m_maySet hR hT (by omega) (by omega) (by omega) hS hQ ?_
  refine gz_istore_n gd_M_setsOwn_7 rfl (Nat.le_of_ble_eq_true rfl) rfl ?_
  refine gz_aload_n gd_M_setsOwn_8 rfl rfl (gz_isr.r _) ?_
  refine md_getf gd_M_setsOwn_9 gf_M_50 hR rfl ?_
  refine gz_bipush (v := 40) gd_M_setsOwn_12 (by decide) ?_
  refine gz_iload_n gd_M_setsOwn_14 rfl rfl ?_
  refine gq_imul (z := nI (40 * o)) gd_M_setsOwn_15 (pk_mul 40 o) ?_
  refine gz_iload_n gd_M_setsOwn_16 rfl rfl ?_
  refine gq_iadd (z := nI (40 * o + p)) gd_M_setsOwn_17 (nI_add (40 * o) p) ?_
  refine gz_iload_n gd_M_setsOwn_18 rfl rfl ?_
  refine gz_if_ne (tgt := 26) gd_M_setsOwn_19 (by decide) (fun h19 => ?_) (fun h19 => ?_)
  ·
    replace h19 := bI_n.1 h19
    refine gz_iconst (v := 0) gd_M_setsOwn_26 (by decide) ?_
    refine mt_zastore (T := T.w_ow (ct2 T.ow o p false)) (a := 97) (i := 40 * o + p) (t := false) gd_M_setsOwn_27 hR rfl rfl (show _ < 480 from (by omega)) (hT.s_ow ho hp rfl) (fun S M hR hT => ?_)
    refine gz_iload_n gd_M_setsOwn_28 rfl rfl ?_
    refine gz_if_eq (tgt := 45) gd_M_setsOwn_29 (by decide) (fun h29 => ?_) (fun h29 => ?_)
    ·
      replace h29 := bI_0.1 h29
      rw [h19] at h29; cases h29
    ·
      replace h29 := bI_n.1 h29
      refine gz_aload_n gd_M_setsOwn_32 rfl rfl (gz_isr.r _) ?_
      refine gz_iload_n gd_M_setsOwn_33 rfl rfl ?_
      refine gz_iload_n gd_M_setsOwn_34 rfl rfl ?_
      refine gz_aload_n gd_M_setsOwn_35 rfl rfl (gz_isr.r _) ?_
      refine md_getf gd_M_setsOwn_36 gf_M_20 hR rfl ?_
      refine gz_iload_n gd_M_setsOwn_39 rfl rfl ?_
      refine mt_iaload (a := 87) (i := p) gd_M_setsOwn_40 hR rfl rfl (show _ < 40 from (by omega)) (hT.last p (by omega)) ?_
      refine gz_iload_n gd_M_setsOwn_41 rfl rfl ?_
      refine gz_virtual4 gd_M_setsOwn_42 hR.1 rfl rfl gs_M_setsOwn_42 (Nat.le_of_ble_eq_true rfl) (Nat.le_of_ble_eq_true rfl) ?_
      refine m_set (T := (T.w_ow (ct2 T.ow o p false))) (o := o) (p := p) (v := (T.last p)) (s := (some o)) hR hT (by omega) (by omega) (by omega) (fun z => absurd z (by show ¬ (T.last p = 0); omega)) (fun _ => rfl) hP hL hN (fun S M hR hT => ?_)
      refine gz_iload_n gd_M_setsOwn_45 rfl rfl ?_
      refine gz_ireturn gd_M_setsOwn_46 rfl (bI_nar _) ?_
      exact k _ _ hR (by rw [y_own, if_pos h19]; exact hT)
  ·
    replace h19 := bI_0.1 h19
    refine gz_iconst (v := 1) gd_M_setsOwn_22 (by decide) ?_
    refine gz_goto (tgt := 27) gd_M_setsOwn_23 (by decide) ?_
    refine mt_zastore (T := T.w_ow (ct2 T.ow o p true)) (a := 97) (i := 40 * o + p) (t := true) gd_M_setsOwn_27 hR rfl rfl (show _ < 480 from (by omega)) (hT.s_ow ho hp rfl) (fun S M hR hT => ?_)
    refine gz_iload_n gd_M_setsOwn_28 rfl rfl ?_
    refine gz_if_eq (tgt := 45) gd_M_setsOwn_29 (by decide) (fun h29 => ?_) (fun h29 => ?_)
    ·
      replace h29 := bI_0.1 h29
      refine gz_iload_n gd_M_setsOwn_45 rfl rfl ?_
      refine gz_ireturn gd_M_setsOwn_46 rfl (bI_nar _) ?_
      exact k _ _ hR (by rw [y_own, if_neg (by rw [h19]; exact Bool.false_ne_true)]; exact hT)
    ·
      replace h29 := bI_n.1 h29
      rw [h19] at h29; cases h29

theorem Rel.s_wt {b : Bool} {S : gS} {T : CT} (h : Rel 12 b S T) {o : Nat} {y : Int32} {xs : List (Nat × Nat)} (hy : y = nI xs.length) (hx : ∀ i x, i < 2000 → xs[i]? = some x → S 103 (2000 * o + i) = nI x.1 ∧ S 104 (2000 * o + i) = nI x.2) : Rel 12 b (gs_set S 102 o y) (T.w_wt (ct1 T.wt o xs)) :=
  Rel.r_wt (Rel.j_wtN (Rel.x_wt (c := o) h)) (by rw [gs_same]; exact hy) hx
theorem m_endHanging {l : Launch} {D : gzD} {K : gzK} {M : gzM} {n nc ns : Nat} {M0 : gzM} {S : gS} {L : gL} {T : CT} (hR : RF M0 S L M) (hT : Rel 12 true S T) {o : Nat} (ho : o < 12) (k : ∀ S M, RF M0 S L M → Rel 12 true S (y_end T o) → K (.inl none) M n nc ns) : GZ l P1 D F_M_endHanging K 0 [some (.ref 83), some (.int (nI o))] [] M n nc ns := by
  refine gz_aload_n gd_M_endHanging_0 rfl rfl (gz_isr.r _) ?_
  refine md_getf gd_M_endHanging_1 gf_M_38 hR rfl ?_
  refine gz_iload_n gd_M_endHanging_4 rfl rfl ?_
  refine gz_iconst (v := -1) gd_M_endHanging_5 (by decide) ?_
  refine mt_iastore (T := y_e1 T o) (a := 93) (i := o) gd_M_endHanging_6 hR rfl rfl (show _ < 12 from (by omega)) (hT.s_par ho rfl) (fun S M hR hT => ?_)
  refine gz_aload_n gd_M_endHanging_7 rfl rfl (gz_isr.r _) ?_
  refine md_getf gd_M_endHanging_8 gf_M_53 hR rfl ?_
  refine gz_iload_n gd_M_endHanging_11 rfl rfl ?_
  refine gz_iconst (v := 0) gd_M_endHanging_12 (by decide) ?_
  refine mt_iastore (T := y_e3 (y_e1 T o) o) (a := 98) (i := o) gd_M_endHanging_13 hR rfl rfl (show _ < 12 from (by omega)) (hT.s_line rfl (fun i x _ hx => by simp at hx)) (fun S M hR hT => ?_)
  refine gz_aload_n gd_M_endHanging_14 rfl rfl (gz_isr.r _) ?_
  refine md_getf gd_M_endHanging_15 gf_M_63 hR rfl ?_
  refine gz_iload_n gd_M_endHanging_18 rfl rfl ?_
  refine gz_iconst (v := 0) gd_M_endHanging_19 (by decide) ?_
  refine mt_iastore (T := y_e2 (y_e3 (y_e1 T o) o) o) (a := 101) (i := o) gd_M_endHanging_20 hR rfl rfl (show _ < 12 from (by omega)) (hT.s_tk ho rfl) (fun S M hR hT => ?_)
  refine gz_aload_n gd_M_endHanging_21 rfl rfl (gz_isr.r _) ?_
  refine md_getf gd_M_endHanging_22 gf_M_66 hR rfl ?_
  refine gz_iload_n gd_M_endHanging_25 rfl rfl ?_
  refine gz_iconst (v := 0) gd_M_endHanging_26 (by decide) ?_
  refine mt_iastore (T := y_end T o) (a := 102) (i := o) gd_M_endHanging_27 hR rfl rfl (show _ < 12 from (by omega)) (hT.s_wt rfl (fun i x _ hx => by simp at hx)) (fun S M hR hT => ?_)
  refine gz_return gd_M_endHanging_28 rfl ?_
  exact k _ _ hR hT
