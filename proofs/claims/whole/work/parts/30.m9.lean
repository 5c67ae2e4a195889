/-! The reference: its face, fourth part. Printed by wip/whole/m9.py -/
def y_rs (T : CT) (o : Nat) : Nat → CT × Nat
  | 0 => (T, 0)
  | i + 1 => if i < T.tk o then y_rs T o i else match (T.line o)[i]? with
    | none => y_rs T o i
    | some x => (y_send (y_rs T o i).1 o (i + 1) x, (y_rs T o i).2 + bN (decide ((y_rs T o i).1.post.length < 500)))
theorem send_post {T : CT} {o k : Nat} {x : Nat × Nat} (h : T.post.length ≤ 500) : (y_send T o k x).post.length ≤ 500 := by
  unfold y_send
  split
  · show (T.post ++ [_]).length ≤ 500
    simp
    omega
  · exact h
theorem rs_f {T : CT} {o : Nat} (h : T.post.length ≤ 500) : ∀ i, (y_rs T o i).1.line = T.line ∧ (y_rs T o i).1.tk = T.tk ∧ (y_rs T o i).1.code = T.code ∧ (y_rs T o i).1.post.length ≤ 500
  | 0 => ⟨rfl, rfl, rfl, h⟩
  | i + 1 => by
    obtain ⟨h1, h2, h3, h4⟩ := rs_f (o := o) h i
    unfold y_rs
    split
    · exact ⟨h1, h2, h3, h4⟩
    · split
      · exact ⟨h1, h2, h3, h4⟩
      · exact ⟨y_send_line.trans h1, y_send_tk.trans h2, y_send_code.trans h3, send_post h4⟩
theorem rs_s {T : CT} {o i : Nat} {x : Nat × Nat} (h : ¬ i < T.tk o) (hx : (T.line o)[i]? = some x) : y_rs T o (i + 1) = (y_send (y_rs T o i).1 o (i + 1) x, (y_rs T o i).2 + bN (decide ((y_rs T o i).1.post.length < 500))) := by
  rw [y_rs, if_neg h, hx]
def z_resend (T : CT) (a : Int32) : Int32 × CT := match inR a 12 with
  | none => (0, T.w_code 1)
  | some o => match T.par o with
    | none => (0, T.w_code 2)
    | some _ => (nI (y_rs (T.w_code 0) o (T.line o).length).2, (y_rs (T.w_code 0) o (T.line o).length).1)
theorem m_resend {l : Launch} {D : gzD} {K : gzK} {M : gzM} {n nc ns : Nat} {M0 : gzM} {S : gS} {L : gL} {T : CT} (hR : RF M0 S L M) (hT : Rel 12 true S T) {xo : Int32} (hI : JI T) (k : ∀ S M, RF M0 S L M → Rel 12 true S (z_resend T xo).2 → K (.inl (some (.int (z_resend T xo).1))) M n nc ns) : GZ l P1 D F_M_resend K 0 [some (.ref 83), some (.int xo), none, none] [] M n nc ns := by
  have hN := hI.1.postN
  refine gz_aload_n gd_M_resend_0 rfl rfl (gz_isr.r _) ?_
  refine gz_iload_n gd_M_resend_1 rfl rfl ?_
  refine gz_static1 gd_M_resend_2 gs_M_resend_2 (Nat.le_of_ble_eq_true rfl) (Nat.le_of_ble_eq_true rfl) ?_
  refine m_isOffice (fun ha hb => ?_) (fun ha => ?_)
  ·
    obtain ⟨o, ho, rfl⟩ := of_ix ha hb
    have eo := inR_s ho (show 12 < 2 ^ 31 by decide)
    refine gz_if_ne (tgt := 12) gd_M_resend_5 (by decide) (fun h5 => ?_) (fun h5 => ?_)
    ·
      cases hu : T.par o with
      | none =>
        refine gz_aload_n gd_M_resend_12 rfl rfl (gz_isr.r _) ?_
        refine md_getf gd_M_resend_13 gf_M_38 hR rfl ?_
        refine gz_iload_n gd_M_resend_16 rfl rfl ?_
        refine mt_iaload (a := 93) (i := o) gd_M_resend_17 hR rfl rfl (show _ < 12 from (by omega)) (show _ = (-1 : Int32) from (hT.par o ho).trans (congrArg oI hu)) ?_
        refine gz_if_ge (tgt := 25) gd_M_resend_18 (by decide) (fun h18 => ?_) (fun h18 => ?_)
        ·
          exact absurd h18 (by decide)
        ·
          refine gz_iconst (v := 2) gd_M_resend_21 (by decide) ?_
          refine gz_goto (tgt := 26) gd_M_resend_22 (by decide) ?_
          refine mt_puti (T := T.w_code 2) gd_M_resend_26 gf_M_100 gr_M_resend_6_0 hR rfl hT.s_code (fun S M hR hT => ?_)
          refine gz_iconst (v := 0) gd_M_resend_29 (by decide) ?_
          refine gz_istore_n gd_M_resend_30 rfl (Nat.le_of_ble_eq_true rfl) rfl ?_
          refine gz_iconst (v := 0) gd_M_resend_31 (by decide) ?_
          refine gz_istore_n gd_M_resend_32 rfl (Nat.le_of_ble_eq_true rfl) rfl ?_
          refine gz_aload_n gd_M_resend_33 rfl rfl (gz_isr.r _) ?_
          refine mt_geti gd_M_resend_34 gf_M_100 hR rfl (show _ = (2 : Int32) from hT.code) ?_
          refine gz_if_ne (tgt := 80) gd_M_resend_37 (by decide) (fun h37 => ?_) (fun h37 => ?_)
          ·
            refine gz_iload_n gd_M_resend_80 rfl rfl ?_
            refine gz_ireturn gd_M_resend_81 rfl rfl ?_
            simp only [z_resend, eo, hu] at k
            exact k _ _ hR hT
          ·
            exact absurd h37 (by decide)
      | some u =>
        have hu1 := hI.1.par o u ho hu
        refine gz_aload_n gd_M_resend_12 rfl rfl (gz_isr.r _) ?_
        refine md_getf gd_M_resend_13 gf_M_38 hR rfl ?_
        refine gz_iload_n gd_M_resend_16 rfl rfl ?_
        refine mt_iaload (a := 93) (i := o) gd_M_resend_17 hR rfl rfl (show _ < 12 from (by omega)) (show _ = nI u from (hT.par o ho).trans (congrArg oI hu)) ?_
        refine gz_if_ge (tgt := 25) gd_M_resend_18 (by decide) (fun h18 => ?_) (fun h18 => ?_)
        ·
          refine gz_iconst (v := 0) gd_M_resend_25 (by decide) ?_
          refine mt_puti (T := T.w_code 0) gd_M_resend_26 gf_M_100 gr_M_resend_6_0 hR rfl hT.s_code (fun S M hR hT => ?_)
          refine gz_iconst (v := 0) gd_M_resend_29 (by decide) ?_
          refine gz_istore_n gd_M_resend_30 rfl (Nat.le_of_ble_eq_true rfl) rfl ?_
          refine gz_iconst (v := 0) gd_M_resend_31 (by decide) ?_
          refine gz_istore_n gd_M_resend_32 rfl (Nat.le_of_ble_eq_true rfl) rfl ?_
          have loop : ∀ (j i : Nat), i + j = (T.line o).length → ∀ a, a = (y_rs (T.w_code 0) o i).2 → ∀ S M, RF M0 S L M → Rel 12 true S (y_rs (T.w_code 0) o i).1 → GZ l P1 D F_M_resend K 33 [some (.ref 83), some (.int (nI o)), some (.int (nI a)), some (.int (nI i))] [] M n nc ns := by
            intro j
            induction j with
            | zero =>
              intro i hi a ha S M hR hT
              obtain ⟨g1, g2, g3, g4⟩ := rs_f (T := T.w_code 0) (o := o) hN i
              refine gz_aload_n gd_M_resend_33 rfl rfl (gz_isr.r _) ?_
              refine mt_geti gd_M_resend_34 gf_M_100 hR rfl (show _ = (0 : Int32) from hT.code.trans g3) ?_
              refine gz_if_ne (tgt := 80) gd_M_resend_37 (by decide) (fun h37 => ?_) (fun h37 => ?_)
              ·
                exact absurd h37 (by decide)
              ·
                refine gz_iload_n gd_M_resend_40 rfl rfl ?_
                refine gz_aload_n gd_M_resend_41 rfl rfl (gz_isr.r _) ?_
                refine md_getf gd_M_resend_42 gf_M_53 hR rfl ?_
                refine gz_iload_n gd_M_resend_45 rfl rfl ?_
                have hLN := hI.1.lineN o ho
                have hTK := hI.1.tk o ho
                refine mt_iaload (a := 98) (i := o) gd_M_resend_46 hR rfl rfl (show _ < 12 from (by omega)) (show _ = nI (T.line o).length from (hT.lineN o ho).trans (by rw [g1]; rfl)) ?_
                refine gz_icmp_ge (tgt := 80) gd_M_resend_47 (by decide) (fun h47 => ?_) (fun h47 => ?_)
                ·
                  replace h47 := (nI_leI (a := (T.line o).length) (b := i) (by omega) (by omega)).1 h47
                  refine gz_iload_n gd_M_resend_80 rfl rfl ?_
                  refine gz_ireturn gd_M_resend_81 rfl rfl ?_
                  have eN : i = (T.line o).length := by omega
                  rw [eN] at ha hT
                  simp only [z_resend, eo, hu] at k
                  rw [ha]
                  exact k _ _ hR hT
                ·
                  replace h47 := mt (nI_leI (a := (T.line o).length) (b := i) (by omega) (by omega)).2 h47
                  omega
            | succ j ih =>
              intro i hi a ha S M hR hT
              obtain ⟨g1, g2, g3, g4⟩ := rs_f (T := T.w_code 0) (o := o) hN i
              refine gz_aload_n gd_M_resend_33 rfl rfl (gz_isr.r _) ?_
              refine mt_geti gd_M_resend_34 gf_M_100 hR rfl (show _ = (0 : Int32) from hT.code.trans g3) ?_
              refine gz_if_ne (tgt := 80) gd_M_resend_37 (by decide) (fun h37 => ?_) (fun h37 => ?_)
              ·
                exact absurd h37 (by decide)
              ·
                refine gz_iload_n gd_M_resend_40 rfl rfl ?_
                refine gz_aload_n gd_M_resend_41 rfl rfl (gz_isr.r _) ?_
                refine md_getf gd_M_resend_42 gf_M_53 hR rfl ?_
                refine gz_iload_n gd_M_resend_45 rfl rfl ?_
                have hLN := hI.1.lineN o ho
                have hTK := hI.1.tk o ho
                refine mt_iaload (a := 98) (i := o) gd_M_resend_46 hR rfl rfl (show _ < 12 from (by omega)) (show _ = nI (T.line o).length from (hT.lineN o ho).trans (by rw [g1]; rfl)) ?_
                refine gz_icmp_ge (tgt := 80) gd_M_resend_47 (by decide) (fun h47 => ?_) (fun h47 => ?_)
                ·
                  replace h47 := (nI_leI (a := (T.line o).length) (b := i) (by omega) (by omega)).1 h47
                  omega
                ·
                  replace h47 := mt (nI_leI (a := (T.line o).length) (b := i) (by omega) (by omega)).2 h47
                  refine gz_iload_n gd_M_resend_50 rfl rfl ?_
                  refine gz_aload_n gd_M_resend_51 rfl rfl (gz_isr.r _) ?_
                  refine md_getf gd_M_resend_52 gf_M_63 hR rfl ?_
                  refine gz_iload_n gd_M_resend_55 rfl rfl ?_
                  refine mt_iaload (a := 101) (i := o) gd_M_resend_56 hR rfl rfl (show _ < 12 from (by omega)) (show _ = nI (T.tk o) from (hT.tk o ho).trans (by rw [g2]; rfl)) ?_
                  refine gz_icmp_lt (tgt := 74) gd_M_resend_57 (by decide) (fun h57 => ?_) (fun h57 => ?_)
                  ·
                    replace h57 := (nI_ltI (a := i) (b := T.tk o) (by omega) (by omega)).1 h57
                    refine gz_iinc (v := nI (i + 1)) gd_M_resend_74 rfl (nI_1 i) (Nat.le_of_ble_eq_true rfl) rfl ?_
                    refine gz_goto (tgt := 33) gd_M_resend_77 (by decide) ?_
                    have e : y_rs (T.w_code 0) o (i + 1) = (y_rs (T.w_code 0) o i) := if_pos h57
                    exact ih (i + 1) (by omega) _ (by rw [e]; exact ha) _ _ hR (by rw [e]; exact hT)
                  ·
                    replace h57 := mt (nI_ltI (a := i) (b := T.tk o) (by omega) (by omega)).2 h57
                    refine gz_aload_n gd_M_resend_60 rfl rfl (gz_isr.r _) ?_
                    refine gz_iload_n gd_M_resend_61 rfl rfl ?_
                    refine gz_iload_n gd_M_resend_62 rfl rfl ?_
                    refine gz_iconst (v := 1) gd_M_resend_63 (by decide) ?_
                    refine gq_iadd (z := nI (i + 1)) gd_M_resend_64 (nI_add i 1) ?_
                    refine gz_virtual2 gd_M_resend_65 hR.1 rfl rfl gs_M_resend_65 (Nat.le_of_ble_eq_true rfl) (Nat.le_of_ble_eq_true rfl) ?_
                    obtain ⟨x, hx⟩ : ∃ x, (T.line o)[i]? = some x := ⟨(T.line o)[i]'(by omega), List.getElem?_eq_getElem (by omega)⟩
                    refine m_send (T := (y_rs (T.w_code 0) o i).1) (o := o) (j := i) (x := x) hR hT ho (by omega) g4 (by rw [g1]; exact hx) (fun S M r hR hT hr => ?_)
                    subst hr
                    refine gz_if_eq (tgt := 74) gd_M_resend_68 (by decide) (fun h68 => ?_) (fun h68 => ?_)
                    ·
                      replace h68 := bI_0.1 h68
                      refine gz_iinc (v := nI (i + 1)) gd_M_resend_74 rfl (nI_1 i) (Nat.le_of_ble_eq_true rfl) rfl ?_
                      refine gz_goto (tgt := 33) gd_M_resend_77 (by decide) ?_
                      have e := rs_s (T := T.w_code 0) (o := o) h57 hx
                      exact ih (i + 1) (by omega) _ (by rw [e, ha, h68]; rfl) _ _ hR (by rw [e]; exact hT)
                    ·
                      replace h68 := bI_n.1 h68
                      refine gz_iinc (v := nI (a + 1)) gd_M_resend_71 rfl (nI_1 a) (Nat.le_of_ble_eq_true rfl) rfl ?_
                      refine gz_iinc (v := nI (i + 1)) gd_M_resend_74 rfl (nI_1 i) (Nat.le_of_ble_eq_true rfl) rfl ?_
                      refine gz_goto (tgt := 33) gd_M_resend_77 (by decide) ?_
                      have e := rs_s (T := T.w_code 0) (o := o) h57 hx
                      exact ih (i + 1) (by omega) _ (by rw [e, ha, h68]; rfl) _ _ hR (by rw [e]; exact hT)
          exact loop (T.line o).length 0 (by omega) 0 rfl _ _ hR hT
        ·
          exact absurd (nI_pos' (by omega)) h18
    ·
      exact absurd h5 (by decide)
  ·
    have eo := inR_n (n := 11) (by decide) rfl ha
    refine gz_if_ne (tgt := 12) gd_M_resend_5 (by decide) (fun h5 => ?_) (fun h5 => ?_)
    ·
      exact absurd h5 (by decide)
    ·
      refine gz_iconst (v := 1) gd_M_resend_8 (by decide) ?_
      refine gz_goto (tgt := 26) gd_M_resend_9 (by decide) ?_
      refine mt_puti (T := T.w_code 1) gd_M_resend_26 gf_M_100 gr_M_resend_6_0 hR rfl hT.s_code (fun S M hR hT => ?_)
      refine gz_iconst (v := 0) gd_M_resend_29 (by decide) ?_
      refine gz_istore_n gd_M_resend_30 rfl (Nat.le_of_ble_eq_true rfl) rfl ?_
      refine gz_iconst (v := 0) gd_M_resend_31 (by decide) ?_
      refine gz_istore_n gd_M_resend_32 rfl (Nat.le_of_ble_eq_true rfl) rfl ?_
      refine gz_aload_n gd_M_resend_33 rfl rfl (gz_isr.r _) ?_
      refine mt_geti gd_M_resend_34 gf_M_100 hR rfl (show _ = (1 : Int32) from hT.code) ?_
      refine gz_if_ne (tgt := 80) gd_M_resend_37 (by decide) (fun h37 => ?_) (fun h37 => ?_)
      ·
        refine gz_iload_n gd_M_resend_80 rfl rfl ?_
        refine gz_ireturn gd_M_resend_81 rfl rfl ?_
        simp only [z_resend, eo] at k
        exact k _ _ hR hT
      ·
        exact absurd h37 (by decide)
