/-! The reference: sum and held. Printed by wip/whole/m14.py -/
def z_sum (T : CT) (a b : Int32) : Int64 × CT := match inR a 12 with
  | none => (0, T.w_code 1)
  | some o => match inR b 6 with
    | none => (0, T.w_code 1)
    | some g => (y_sum (T.w_code 0) o none g 40, T.w_code 0)
def z_held (T : CT) (a b d : Int32) : Int64 × CT := match inR a 12 with
  | none => (0, T.w_code 1)
  | some o => match inR b 12 with
    | none => (0, T.w_code 1)
    | some u => match inR d 6 with
      | none => (0, T.w_code 1)
      | some g => if T.par u = some o then (y_sum (T.w_code 0) o (some u) g 40, T.w_code 0) else (0, T.w_code 0)
theorem m_sum {l : Launch} {D : gzD} {K : gzK} {M : gzM} {n nc ns : Nat} {M0 : gzM} {S : gS} {L : gL} {T : CT} (hR : RF M0 S L M) (hT : Rel 12 true S T) {xo xg : Int32} (hB : Bd T) (k : ∀ S L M, RF M0 S L M → Rel 12 true S (z_sum T xo xg).2 → K (.inl (some (.long (z_sum T xo xg).1))) M n nc ns) : GZ l P1 D F_M_sum K 0 [some (.ref 83), some (.int xo), some (.int xg)] [] M n nc ns := by
  refine gz_aload_n gd_M_sum_0 rfl rfl (gz_isr.r _) ?_
  refine gz_iload_n gd_M_sum_1 rfl rfl ?_
  refine gz_static1 gd_M_sum_2 gs_M_sum_2 (Nat.le_of_ble_eq_true rfl) (Nat.le_of_ble_eq_true rfl) ?_
  refine m_isOffice (fun ha hb => ?_) (fun ha => ?_)
  ·
    obtain ⟨o, ho, rfl⟩ := of_ix ha hb
    have eo := inR_s ho (show 12 < 2 ^ 31 by decide)
    refine gz_if_eq (tgt := 21) gd_M_sum_5 (by decide) (fun h5 => ?_) (fun h5 => ?_)
    ·
      exact absurd h5 (by decide)
    ·
      refine gz_iload_n gd_M_sum_8 rfl rfl ?_
      refine gz_iconst (v := 0) gd_M_sum_9 (by decide) ?_
      refine gz_iconst (v := 5) gd_M_sum_10 (by decide) ?_
      refine gz_static3 gd_M_sum_11 gs_M_sum_11 (Nat.le_of_ble_eq_true rfl) (Nat.le_of_ble_eq_true rfl) ?_
      refine m_in (fun ha hb => ?_) (fun ha => ?_)
      ·
        obtain ⟨g, hg, rfl⟩ := op_ix ha hb
        have eg := inR_s hg (show 6 < 2 ^ 31 by decide)
        refine gz_if_eq (tgt := 21) gd_M_sum_14 (by decide) (fun h14 => ?_) (fun h14 => ?_)
        ·
          exact absurd h14 (by decide)
        ·
          refine gz_iconst (v := 0) gd_M_sum_17 (by decide) ?_
          refine gz_goto (tgt := 22) gd_M_sum_18 (by decide) ?_
          refine mt_puti (T := T.w_code 0) gd_M_sum_22 gf_M_100 gr_M_sum_6_0 hR rfl hT.s_code (fun S M hR hT => ?_)
          refine gz_aload_n gd_M_sum_25 rfl rfl (gz_isr.r _) ?_
          refine mt_geti gd_M_sum_26 gf_M_100 hR rfl (show _ = (0 : Int32) from hT.code) ?_
          refine gz_if_le (tgt := 34) gd_M_sum_29 (by decide) (fun h29 => ?_) (fun h29 => ?_)
          ·
            refine gz_aload_n gd_M_sum_34 rfl rfl (gz_isr.r _) ?_
            refine gz_iload_n gd_M_sum_35 rfl rfl ?_
            refine gz_iconst (v := -1) gd_M_sum_36 (by decide) ?_
            refine gz_virtual2 gd_M_sum_37 hR.1 rfl rfl gs_M_sum_37 (Nat.le_of_ble_eq_true rfl) (Nat.le_of_ble_eq_true rfl) ?_
            refine m_sumUp (T := T.w_code 0) (o := o) (th := none) hR hT ho (fun j hj => by cases hj) hB.w_code (fun L M hR hL => ?_)
            refine gz_aload_n gd_M_sum_40 rfl rfl (gz_isr.r _) ?_
            refine md_getf gd_M_sum_41 gf_M_90 hR rfl ?_
            refine gz_iload_n gd_M_sum_44 rfl rfl ?_
            refine md_laload (a := 110) (i := g) gd_M_sum_45 hR (by decide) rfl (by omega) ?_
            refine gz_lreturn gd_M_sum_46 rfl ?_
            rw [hL g hg]
            simp only [z_sum, eo, eg] at k
            exact k _ _ _ hR hT
          ·
            exact absurd h29 (by decide)
      ·
        have eg := inR_n (n := 5) (by decide) rfl ha
        refine gz_if_eq (tgt := 21) gd_M_sum_14 (by decide) (fun h14 => ?_) (fun h14 => ?_)
        ·
          refine gz_iconst (v := 1) gd_M_sum_21 (by decide) ?_
          refine mt_puti (T := T.w_code 1) gd_M_sum_22 gf_M_100 gr_M_sum_6_0 hR rfl hT.s_code (fun S M hR hT => ?_)
          refine gz_aload_n gd_M_sum_25 rfl rfl (gz_isr.r _) ?_
          refine mt_geti gd_M_sum_26 gf_M_100 hR rfl (show _ = (1 : Int32) from hT.code) ?_
          refine gz_if_le (tgt := 34) gd_M_sum_29 (by decide) (fun h29 => ?_) (fun h29 => ?_)
          ·
            exact absurd h29 (by decide)
          ·
            refine gz_lconst (v := 0) gd_M_sum_32 (by decide) ?_
            refine gz_lreturn gd_M_sum_33 rfl ?_
            simp only [z_sum, eo, eg] at k
            exact k _ _ _ hR hT
        ·
          exact absurd h14 (by decide)
  ·
    have eo := inR_n (n := 11) (by decide) rfl ha
    refine gz_if_eq (tgt := 21) gd_M_sum_5 (by decide) (fun h5 => ?_) (fun h5 => ?_)
    ·
      refine gz_iconst (v := 1) gd_M_sum_21 (by decide) ?_
      refine mt_puti (T := T.w_code 1) gd_M_sum_22 gf_M_100 gr_M_sum_6_0 hR rfl hT.s_code (fun S M hR hT => ?_)
      refine gz_aload_n gd_M_sum_25 rfl rfl (gz_isr.r _) ?_
      refine mt_geti gd_M_sum_26 gf_M_100 hR rfl (show _ = (1 : Int32) from hT.code) ?_
      refine gz_if_le (tgt := 34) gd_M_sum_29 (by decide) (fun h29 => ?_) (fun h29 => ?_)
      ·
        exact absurd h29 (by decide)
      ·
        refine gz_lconst (v := 0) gd_M_sum_32 (by decide) ?_
        refine gz_lreturn gd_M_sum_33 rfl ?_
        simp only [z_sum, eo] at k
        exact k _ _ _ hR hT
    ·
      exact absurd h5 (by decide)

theorem m_held {l : Launch} {D : gzD} {K : gzK} {M : gzM} {n nc ns : Nat} {M0 : gzM} {S : gS} {L : gL} {T : CT} (hR : RF M0 S L M) (hT : Rel 12 true S T) {xo xu xg : Int32} (hB : Bd T) (k : ∀ S L M, RF M0 S L M → Rel 12 true S (z_held T xo xu xg).2 → K (.inl (some (.long (z_held T xo xu xg).1))) M n nc ns) : GZ l P1 D F_M_held K 0 [some (.ref 83), some (.int xo), some (.int xu), some (.int xg)] [] M n nc ns := by
  refine gz_aload_n gd_M_held_0 rfl rfl (gz_isr.r _) ?_
  refine gz_iload_n gd_M_held_1 rfl rfl ?_
  refine gz_static1 gd_M_held_2 gs_M_held_2 (Nat.le_of_ble_eq_true rfl) (Nat.le_of_ble_eq_true rfl) ?_
  refine m_isOffice (fun ha hb => ?_) (fun ha => ?_)
  ·
    obtain ⟨o, ho, rfl⟩ := of_ix ha hb
    have eo := inR_s ho (show 12 < 2 ^ 31 by decide)
    refine gz_if_eq (tgt := 28) gd_M_held_5 (by decide) (fun h5 => ?_) (fun h5 => ?_)
    ·
      exact absurd h5 (by decide)
    ·
      refine gz_iload_n gd_M_held_8 rfl rfl ?_
      refine gz_static1 gd_M_held_9 gs_M_held_9 (Nat.le_of_ble_eq_true rfl) (Nat.le_of_ble_eq_true rfl) ?_
      refine m_isOffice (fun ha hb => ?_) (fun ha => ?_)
      ·
        obtain ⟨u, hu, rfl⟩ := of_ix ha hb
        have eu := inR_s hu (show 12 < 2 ^ 31 by decide)
        refine gz_if_eq (tgt := 28) gd_M_held_12 (by decide) (fun h12 => ?_) (fun h12 => ?_)
        ·
          exact absurd h12 (by decide)
        ·
          refine gz_iload_n gd_M_held_15 rfl rfl ?_
          refine gz_iconst (v := 0) gd_M_held_16 (by decide) ?_
          refine gz_iconst (v := 5) gd_M_held_17 (by decide) ?_
          refine gz_static3 gd_M_held_18 gs_M_held_18 (Nat.le_of_ble_eq_true rfl) (Nat.le_of_ble_eq_true rfl) ?_
          refine m_in (fun ha hb => ?_) (fun ha => ?_)
          ·
            obtain ⟨g, hg, rfl⟩ := op_ix ha hb
            have eg := inR_s hg (show 6 < 2 ^ 31 by decide)
            refine gz_if_eq (tgt := 28) gd_M_held_21 (by decide) (fun h21 => ?_) (fun h21 => ?_)
            ·
              exact absurd h21 (by decide)
            ·
              refine gz_iconst (v := 0) gd_M_held_24 (by decide) ?_
              refine gz_goto (tgt := 29) gd_M_held_25 (by decide) ?_
              refine mt_puti (T := T.w_code 0) gd_M_held_29 gf_M_100 gr_M_held_6_0 hR rfl hT.s_code (fun S M hR hT => ?_)
              refine gz_aload_n gd_M_held_32 rfl rfl (gz_isr.r _) ?_
              refine mt_geti gd_M_held_33 gf_M_100 hR rfl (show _ = (0 : Int32) from hT.code) ?_
              refine gz_if_gt (tgt := 49) gd_M_held_36 (by decide) (fun h36 => ?_) (fun h36 => ?_)
              ·
                exact absurd h36 (by decide)
              ·
                refine gz_aload_n gd_M_held_39 rfl rfl (gz_isr.r _) ?_
                refine md_getf gd_M_held_40 gf_M_38 hR rfl ?_
                refine gz_iload_n gd_M_held_43 rfl rfl ?_
                refine mt_iaload (a := 93) (i := u) gd_M_held_44 hR rfl rfl (show _ < 12 from (by omega)) (show _ = oI (T.par u) from (hT.par u (by omega))) ?_
                refine gz_iload_n gd_M_held_45 rfl rfl ?_
                refine gz_icmp_eq (tgt := 51) gd_M_held_46 (by decide) (fun h46 => ?_) (fun h46 => ?_)
                ·
                  replace h46 := (oI_eq (o := o) (fun j hj => hB.par _ _ (by omega) hj) (by omega)).1 h46
                  refine gz_aload_n gd_M_held_51 rfl rfl (gz_isr.r _) ?_
                  refine gz_iload_n gd_M_held_52 rfl rfl ?_
                  refine gz_iload_n gd_M_held_53 rfl rfl ?_
                  refine gz_virtual2 gd_M_held_54 hR.1 rfl rfl gs_M_held_54 (Nat.le_of_ble_eq_true rfl) (Nat.le_of_ble_eq_true rfl) ?_
                  refine m_sumUp (T := T.w_code 0) (o := o) (th := some u) hR hT ho (fun j hj => by cases hj; exact hu) hB.w_code (fun L M hR hL => ?_)
                  refine gz_aload_n gd_M_held_57 rfl rfl (gz_isr.r _) ?_
                  refine md_getf gd_M_held_58 gf_M_90 hR rfl ?_
                  refine gz_iload_n gd_M_held_61 rfl rfl ?_
                  refine md_laload (a := 110) (i := g) gd_M_held_62 hR (by decide) rfl (by omega) ?_
                  refine gz_lreturn gd_M_held_63 rfl ?_
                  rw [hL g hg]
                  simp only [z_held, eo, eu, eg, if_pos h46] at k
                  exact k _ _ _ hR hT
                ·
                  replace h46 := mt (oI_eq (o := o) (fun j hj => hB.par _ _ (by omega) hj) (by omega)).2 h46
                  refine gz_lconst (v := 0) gd_M_held_49 (by decide) ?_
                  refine gz_lreturn gd_M_held_50 rfl ?_
                  simp only [z_held, eo, eu, eg, if_neg h46] at k
                  exact k _ _ _ hR hT
          ·
            have eg := inR_n (n := 5) (by decide) rfl ha
            refine gz_if_eq (tgt := 28) gd_M_held_21 (by decide) (fun h21 => ?_) (fun h21 => ?_)
            ·
              refine gz_iconst (v := 1) gd_M_held_28 (by decide) ?_
              refine mt_puti (T := T.w_code 1) gd_M_held_29 gf_M_100 gr_M_held_6_0 hR rfl hT.s_code (fun S M hR hT => ?_)
              refine gz_aload_n gd_M_held_32 rfl rfl (gz_isr.r _) ?_
              refine mt_geti gd_M_held_33 gf_M_100 hR rfl (show _ = (1 : Int32) from hT.code) ?_
              refine gz_if_gt (tgt := 49) gd_M_held_36 (by decide) (fun h36 => ?_) (fun h36 => ?_)
              ·
                refine gz_lconst (v := 0) gd_M_held_49 (by decide) ?_
                refine gz_lreturn gd_M_held_50 rfl ?_
                simp only [z_held, eo, eu, eg] at k
                exact k _ _ _ hR hT
              ·
                exact absurd h36 (by decide)
            ·
              exact absurd h21 (by decide)
      ·
        have eu := inR_n (n := 11) (by decide) rfl ha
        refine gz_if_eq (tgt := 28) gd_M_held_12 (by decide) (fun h12 => ?_) (fun h12 => ?_)
        ·
          refine gz_iconst (v := 1) gd_M_held_28 (by decide) ?_
          refine mt_puti (T := T.w_code 1) gd_M_held_29 gf_M_100 gr_M_held_6_0 hR rfl hT.s_code (fun S M hR hT => ?_)
          refine gz_aload_n gd_M_held_32 rfl rfl (gz_isr.r _) ?_
          refine mt_geti gd_M_held_33 gf_M_100 hR rfl (show _ = (1 : Int32) from hT.code) ?_
          refine gz_if_gt (tgt := 49) gd_M_held_36 (by decide) (fun h36 => ?_) (fun h36 => ?_)
          ·
            refine gz_lconst (v := 0) gd_M_held_49 (by decide) ?_
            refine gz_lreturn gd_M_held_50 rfl ?_
            simp only [z_held, eo, eu] at k
            exact k _ _ _ hR hT
          ·
            exact absurd h36 (by decide)
        ·
          exact absurd h12 (by decide)
  ·
    have eo := inR_n (n := 11) (by decide) rfl ha
    refine gz_if_eq (tgt := 28) gd_M_held_5 (by decide) (fun h5 => ?_) (fun h5 => ?_)
    ·
      refine gz_iconst (v := 1) gd_M_held_28 (by decide) ?_
      refine mt_puti (T := T.w_code 1) gd_M_held_29 gf_M_100 gr_M_held_6_0 hR rfl hT.s_code (fun S M hR hT => ?_)
      refine gz_aload_n gd_M_held_32 rfl rfl (gz_isr.r _) ?_
      refine mt_geti gd_M_held_33 gf_M_100 hR rfl (show _ = (1 : Int32) from hT.code) ?_
      refine gz_if_gt (tgt := 49) gd_M_held_36 (by decide) (fun h36 => ?_) (fun h36 => ?_)
      ·
        refine gz_lconst (v := 0) gd_M_held_49 (by decide) ?_
        refine gz_lreturn gd_M_held_50 rfl ?_
        simp only [z_held, eo] at k
        exact k _ _ _ hR hT
      ·
        exact absurd h36 (by decide)
    ·
      exact absurd h5 (by decide)
