/-! The reference: its face, fifth part. Printed by wip/whole/m10.py -/
def z_letters (T : CT) : Int32 × CT := (nI T.post.length, T.w_code 0)
def z_astray (T : CT) : Int32 × CT := (0, T.w_code 0)
def z_thrown (T : CT) : Int32 × CT := (T.code, T)
def y_mk (T : CT) (o : Nat) : Nat := sN 40 (fun p => if T.mark (T.shown o p) = 0 then 0 else 1)
def z_marked (T : CT) (a : Int32) : Int32 × CT := match inR a 12 with
  | none => (0, T.w_code 1)
  | some o => (nI (y_mk T o), T.w_code 0)
def y_rest (T : CT) : Nat → Bool
  | 0 => decide (T.post.length = 0)
  | i + 1 => y_rest T i && decide (T.tk i = (T.line i).length) && decide (y_waits T i = 0)
def z_atRest (T : CT) : Bool × CT := (y_rest T 12, T.w_code 0)
theorem waits_code {T : CT} {o : Nat} {v : Int32} : y_waits (T.w_code v) o = y_waits T o := rfl
theorem m_letters2 {l : Launch} {D : gzD} {K : gzK} {M : gzM} {n nc ns : Nat} {M0 : gzM} {S : gS} {L : gL} {T : CT} (hR : RF M0 S L M) (hT : Rel 12 true S T)  (k : ∀ S M, RF M0 S L M → Rel 12 true S (z_letters T).2 → K (.inl (some (.int (z_letters T).1))) M n nc ns) : GZ l P1 D F_M_letters K 0 [some (.ref 83)] [] M n nc ns := by
  refine gz_aload_n gd_M_letters_0 rfl rfl (gz_isr.r _) ?_
  refine gz_iconst (v := 0) gd_M_letters_1 (by decide) ?_
  refine mt_puti (T := T.w_code 0) gd_M_letters_2 gf_M_100 gr_M_letters_6_0 hR rfl hT.s_code (fun S M hR hT => ?_)
  refine gz_aload_n gd_M_letters_5 rfl rfl (gz_isr.r _) ?_
  refine mt_geti gd_M_letters_6 gf_M_112 hR rfl (show _ = nI T.post.length from (hT.postN rfl)) ?_
  refine gz_ireturn gd_M_letters_9 rfl rfl ?_
  exact k _ _ hR hT

theorem m_astray2 {l : Launch} {D : gzD} {K : gzK} {M : gzM} {n nc ns : Nat} {M0 : gzM} {S : gS} {L : gL} {T : CT} (hR : RF M0 S L M) (hT : Rel 12 true S T)  (k : ∀ S M, RF M0 S L M → Rel 12 true S (z_astray T).2 → K (.inl (some (.int (z_astray T).1))) M n nc ns) : GZ l P1 D F_M_astray K 0 [some (.ref 83)] [] M n nc ns := by
  refine gz_aload_n gd_M_astray_0 rfl rfl (gz_isr.r _) ?_
  refine gz_iconst (v := 0) gd_M_astray_1 (by decide) ?_
  refine mt_puti (T := T.w_code 0) gd_M_astray_2 gf_M_100 gr_M_astray_6_0 hR rfl hT.s_code (fun S M hR hT => ?_)
  refine gz_iconst (v := 0) gd_M_astray_5 (by decide) ?_
  refine gz_ireturn gd_M_astray_6 rfl rfl ?_
  exact k _ _ hR hT

theorem m_thrown2 {l : Launch} {D : gzD} {K : gzK} {M : gzM} {n nc ns : Nat} {M0 : gzM} {S : gS} {L : gL} {T : CT} (hR : RF M0 S L M) (hT : Rel 12 true S T)  (k : ∀ S M, RF M0 S L M → Rel 12 true S (z_thrown T).2 → K (.inl (some (.int (z_thrown T).1))) M n nc ns) : GZ l P1 D F_M_thrown K 0 [some (.ref 83)] [] M n nc ns := by
  refine gz_aload_n gd_M_thrown_0 rfl rfl (gz_isr.r _) ?_
  refine mt_geti gd_M_thrown_1 gf_M_100 hR rfl (show _ = (T.code : Int32) from hT.code) ?_
  refine gz_ireturn gd_M_thrown_4 rfl rfl ?_
  exact k _ _ hR hT

theorem m_marked {l : Launch} {D : gzD} {K : gzK} {M : gzM} {n nc ns : Nat} {M0 : gzM} {S : gS} {L : gL} {T : CT} (hR : RF M0 S L M) (hT : Rel 12 true S T) {xo : Int32} (hB : Bd T) (k : ∀ S M, RF M0 S L M → Rel 12 true S (z_marked T xo).2 → K (.inl (some (.int (z_marked T xo).1))) M n nc ns) : GZ l P1 D F_M_marked K 0 [some (.ref 83), some (.int xo), none, none] [] M n nc ns := by
  refine gz_aload_n gd_M_marked_0 rfl rfl (gz_isr.r _) ?_
  refine gz_iload_n gd_M_marked_1 rfl rfl ?_
  refine gz_static1 gd_M_marked_2 gs_M_marked_2 (Nat.le_of_ble_eq_true rfl) (Nat.le_of_ble_eq_true rfl) ?_
  refine m_isOffice (fun ha hb => ?_) (fun ha => ?_)
  ·
    obtain ⟨o, ho, rfl⟩ := of_ix ha hb
    have eo := inR_s ho (show 12 < 2 ^ 31 by decide)
    refine gz_if_eq (tgt := 12) gd_M_marked_5 (by decide) (fun h5 => ?_) (fun h5 => ?_)
    ·
      exact absurd h5 (by decide)
    ·
      refine gz_iconst (v := 0) gd_M_marked_8 (by decide) ?_
      refine gz_goto (tgt := 13) gd_M_marked_9 (by decide) ?_
      refine mt_puti (T := T.w_code 0) gd_M_marked_13 gf_M_100 gr_M_marked_6_0 hR rfl hT.s_code (fun S M hR hT => ?_)
      refine gz_iconst (v := 0) gd_M_marked_16 (by decide) ?_
      refine gz_istore_n gd_M_marked_17 rfl (Nat.le_of_ble_eq_true rfl) rfl ?_
      refine gz_iconst (v := 0) gd_M_marked_18 (by decide) ?_
      refine gz_istore_n gd_M_marked_19 rfl (Nat.le_of_ble_eq_true rfl) rfl ?_
      have loop : ∀ (j i : Nat), i + j = 40 → ∀ a, a = sN i (fun p => if T.mark (T.shown o p) = 0 then 0 else 1) → GZ l P1 D F_M_marked K 20 [some (.ref 83), some (.int (nI o)), some (.int (nI a)), some (.int (nI i))] [] M n nc ns := by
        intro j
        induction j with
        | zero =>
          intro i hi a ha
          refine gz_iload_n gd_M_marked_20 rfl rfl ?_
          refine gz_bipush (v := 40) gd_M_marked_21 (by decide) ?_
          refine gz_icmp_ge (tgt := 66) gd_M_marked_23 (by decide) (fun h23 => ?_) (fun h23 => ?_)
          ·
            replace h23 := (nI_leI (a := 40) (b := i) (by omega) (by omega)).1 h23
            refine gz_iload_n gd_M_marked_66 rfl rfl ?_
            refine gz_ireturn gd_M_marked_67 rfl rfl ?_
            have e40 : i = 40 := by omega
            rw [e40] at ha
            simp only [z_marked, eo] at k
            rw [ha]
            exact k _ _ hR hT
          ·
            replace h23 := mt (nI_leI (a := 40) (b := i) (by omega) (by omega)).2 h23
            omega
        | succ j ih =>
          intro i hi a ha
          refine gz_iload_n gd_M_marked_20 rfl rfl ?_
          refine gz_bipush (v := 40) gd_M_marked_21 (by decide) ?_
          refine gz_icmp_ge (tgt := 66) gd_M_marked_23 (by decide) (fun h23 => ?_) (fun h23 => ?_)
          ·
            replace h23 := (nI_leI (a := 40) (b := i) (by omega) (by omega)).1 h23
            omega
          ·
            replace h23 := mt (nI_leI (a := 40) (b := i) (by omega) (by omega)).2 h23
            refine gz_aload_n gd_M_marked_26 rfl rfl (gz_isr.r _) ?_
            refine mt_geti gd_M_marked_27 gf_M_100 hR rfl (show _ = (0 : Int32) from hT.code) ?_
            refine gz_if_ne (tgt := 66) gd_M_marked_30 (by decide) (fun h30 => ?_) (fun h30 => ?_)
            ·
              exact absurd h30 (by decide)
            ·
              refine gz_iload_n gd_M_marked_33 rfl rfl ?_
              refine gz_aload_n gd_M_marked_34 rfl rfl (gz_isr.r _) ?_
              refine md_getf gd_M_marked_35 gf_M_29 hR rfl ?_
              refine gz_aload_n gd_M_marked_38 rfl rfl (gz_isr.r _) ?_
              refine md_getf gd_M_marked_39 gf_M_44 hR rfl ?_
              refine gz_bipush (v := 40) gd_M_marked_42 (by decide) ?_
              refine gz_iload_n gd_M_marked_44 rfl rfl ?_
              refine gq_imul (z := nI (40 * o)) gd_M_marked_45 (pk_mul 40 o) ?_
              refine gz_iload_n gd_M_marked_46 rfl rfl ?_
              refine gq_iadd (z := nI (40 * o + i)) gd_M_marked_47 (nI_add (40 * o) i) ?_
              refine mt_iaload (a := 95) (i := 40 * o + i) gd_M_marked_48 hR rfl rfl (show _ < 480 from (by omega)) (show _ = nI (T.shown o i) from (hT.shown o i (by omega) (by omega))) ?_
              have hs := hB.shown o i ho (by omega)
              have := hB.vs
              refine mt_iaload (a := 90) (i := T.shown o i) gd_M_marked_49 hR rfl rfl (show _ < 301 from (by omega)) (show _ = T.mark (T.shown o i) from (hT.mark (T.shown o i) (by omega))) ?_
              refine gz_if_eq (tgt := 57) gd_M_marked_50 (by decide) (fun h50 => ?_) (fun h50 => ?_)
              ·
                refine gz_iconst (v := 0) gd_M_marked_57 (by decide) ?_
                refine gq_iadd (z := nI (a + 0)) gd_M_marked_58 (nI_add a 0) ?_
                refine gz_istore_n gd_M_marked_59 rfl (Nat.le_of_ble_eq_true rfl) rfl ?_
                refine gz_iinc (v := nI (i + 1)) gd_M_marked_60 rfl (nI_1 i) (Nat.le_of_ble_eq_true rfl) rfl ?_
                refine gz_goto (tgt := 20) gd_M_marked_63 (by decide) ?_
                exact ih (i + 1) (by omega) _ (by rw [ha]; show _ = sN i (fun p => if T.mark (T.shown o p) = 0 then 0 else 1) + (if T.mark (T.shown o i) = 0 then 0 else 1); rw [if_pos h50])
              ·
                refine gz_iconst (v := 1) gd_M_marked_53 (by decide) ?_
                refine gz_goto (tgt := 58) gd_M_marked_54 (by decide) ?_
                refine gq_iadd (z := nI (a + 1)) gd_M_marked_58 (nI_add a 1) ?_
                refine gz_istore_n gd_M_marked_59 rfl (Nat.le_of_ble_eq_true rfl) rfl ?_
                refine gz_iinc (v := nI (i + 1)) gd_M_marked_60 rfl (nI_1 i) (Nat.le_of_ble_eq_true rfl) rfl ?_
                refine gz_goto (tgt := 20) gd_M_marked_63 (by decide) ?_
                exact ih (i + 1) (by omega) _ (by rw [ha]; show _ = sN i (fun p => if T.mark (T.shown o p) = 0 then 0 else 1) + (if T.mark (T.shown o i) = 0 then 0 else 1); rw [if_neg h50])
      exact loop 40 0 (by omega) 0 rfl
  ·
    have eo := inR_n (n := 11) (by decide) rfl ha
    refine gz_if_eq (tgt := 12) gd_M_marked_5 (by decide) (fun h5 => ?_) (fun h5 => ?_)
    ·
      refine gz_iconst (v := 1) gd_M_marked_12 (by decide) ?_
      refine mt_puti (T := T.w_code 1) gd_M_marked_13 gf_M_100 gr_M_marked_6_0 hR rfl hT.s_code (fun S M hR hT => ?_)
      refine gz_iconst (v := 0) gd_M_marked_16 (by decide) ?_
      refine gz_istore_n gd_M_marked_17 rfl (Nat.le_of_ble_eq_true rfl) rfl ?_
      refine gz_iconst (v := 0) gd_M_marked_18 (by decide) ?_
      refine gz_istore_n gd_M_marked_19 rfl (Nat.le_of_ble_eq_true rfl) rfl ?_
      refine gz_iload_n gd_M_marked_20 rfl rfl ?_
      refine gz_bipush (v := 40) gd_M_marked_21 (by decide) ?_
      refine gz_icmp_ge (tgt := 66) gd_M_marked_23 (by decide) (fun h23 => ?_) (fun h23 => ?_)
      ·
        exact absurd h23 (by decide)
      ·
        refine gz_aload_n gd_M_marked_26 rfl rfl (gz_isr.r _) ?_
        refine mt_geti gd_M_marked_27 gf_M_100 hR rfl (show _ = (1 : Int32) from hT.code) ?_
        refine gz_if_ne (tgt := 66) gd_M_marked_30 (by decide) (fun h30 => ?_) (fun h30 => ?_)
        ·
          refine gz_iload_n gd_M_marked_66 rfl rfl ?_
          refine gz_ireturn gd_M_marked_67 rfl rfl ?_
          simp only [z_marked, eo] at k
          exact k _ _ hR hT
        ·
          exact absurd h30 (by decide)
    ·
      exact absurd h5 (by decide)

theorem sN_le2 {f g : Nat → Nat} : ∀ {n : Nat}, (∀ i, i < n → f i ≤ g i) → sN n f ≤ sN n g
  | 0, _ => Nat.le_refl _
  | n + 1, h => Nat.add_le_add (sN_le2 (fun i hi => h i (by omega))) (h n (by omega))
theorem waits_le {T : CT} {o : Nat} (ho : o < 12) : y_waits T o ≤ pot T := by
  have h1 := sN_le (f := fun o => sN 40 (fun p => bN (T.ow o p))) ho
  have h2 : sN 12 (fun c => if T.par c = some o then (T.wt c).length else 0) ≤ potW T := sN_le2 (fun i _ => by
    split
    · exact Nat.le_refl _
    · exact Nat.zero_le _)
  replace h1 : sN 40 (fun p => bN (T.ow o p)) ≤ potO T := h1
  unfold y_waits pot
  omega
theorem m_isAtRest {l : Launch} {D : gzD} {K : gzK} {M : gzM} {n nc ns : Nat} {M0 : gzM} {S : gS} {L : gL} {T : CT} (hR : RF M0 S L M) (hT : Rel 12 true S T) (hI : JI T) (k : ∀ S M, RF M0 S L M → Rel 12 true S (z_atRest T).2 → K (.inl (some (.int (bI (z_atRest T).1)))) M n nc ns) : GZ l P1 D F_M_isAtRest K 0 [some (.ref 83), none, none] [] M n nc ns := by
  refine gz_aload_n gd_M_isAtRest_0 rfl rfl (gz_isr.r _) ?_
  refine gz_iconst (v := 0) gd_M_isAtRest_1 (by decide) ?_
  refine mt_puti (T := T.w_code 0) gd_M_isAtRest_2 gf_M_100 gr_M_isAtRest_6_0 hR rfl hT.s_code (fun S M hR hT => ?_)
  refine gz_aload_n gd_M_isAtRest_5 rfl rfl (gz_isr.r _) ?_
  refine mt_geti gd_M_isAtRest_6 gf_M_112 hR rfl (show _ = nI T.post.length from (hT.postN rfl)) ?_
  refine gz_if_ne (tgt := 16) gd_M_isAtRest_9 (by decide) (fun h9 => ?_) (fun h9 => ?_)
  ·
    replace h9 := mt (nI_z (by have := hI.1.postN; omega)).2 h9
    refine gz_iconst (v := 0) gd_M_isAtRest_16 (by decide) ?_
    refine gz_istore_n gd_M_isAtRest_17 rfl (Nat.le_of_ble_eq_true rfl) rfl ?_
    refine gz_iconst (v := 0) gd_M_isAtRest_18 (by decide) ?_
    refine gz_istore_n gd_M_isAtRest_19 rfl (Nat.le_of_ble_eq_true rfl) rfl ?_
    have hr0 : (0 : Int32) = bI (y_rest T 0) := by show _ = bI (decide (T.post.length = 0)); rw [decide_eq_false h9]; rfl
    have loop : ∀ (j i : Nat), i + j = 12 →  GZ l P1 D F_M_isAtRest K 20 [some (.ref 83), some (.int (bI (y_rest T i))), some (.int (nI i))] [] M n nc ns := by
      intro j
      induction j with
      | zero =>
        intro i hi
        refine gz_iload_n gd_M_isAtRest_20 rfl rfl ?_
        refine gz_bipush (v := 12) gd_M_isAtRest_21 (by decide) ?_
        refine gz_icmp_ge (tgt := 65) gd_M_isAtRest_23 (by decide) (fun h23 => ?_) (fun h23 => ?_)
        ·
          replace h23 := (nI_leI (a := 12) (b := i) (by omega) (by omega)).1 h23
          refine gz_iload_n gd_M_isAtRest_65 rfl rfl ?_
          refine gz_ireturn gd_M_isAtRest_66 rfl (bI_nar _) ?_
          have e12 : i = 12 := by omega
          rw [e12]
          exact k _ _ hR hT
        ·
          replace h23 := mt (nI_leI (a := 12) (b := i) (by omega) (by omega)).2 h23
          omega
      | succ j ih =>
        intro i hi
        refine gz_iload_n gd_M_isAtRest_20 rfl rfl ?_
        refine gz_bipush (v := 12) gd_M_isAtRest_21 (by decide) ?_
        refine gz_icmp_ge (tgt := 65) gd_M_isAtRest_23 (by decide) (fun h23 => ?_) (fun h23 => ?_)
        ·
          replace h23 := (nI_leI (a := 12) (b := i) (by omega) (by omega)).1 h23
          omega
        ·
          replace h23 := mt (nI_leI (a := 12) (b := i) (by omega) (by omega)).2 h23
          refine gz_iload_n gd_M_isAtRest_26 rfl rfl ?_
          refine gz_if_eq (tgt := 57) gd_M_isAtRest_27 (by decide) (fun h27 => ?_) (fun h27 => ?_)
          ·
            replace h27 := bI_0.1 h27
            refine gz_iconst (v := 0) gd_M_isAtRest_57 (by decide) ?_
            refine gz_istore_n gd_M_isAtRest_58 rfl (Nat.le_of_ble_eq_true rfl) rfl ?_
            refine gz_iinc (v := nI (i + 1)) gd_M_isAtRest_59 rfl (nI_1 i) (Nat.le_of_ble_eq_true rfl) rfl ?_
            refine gz_goto (tgt := 20) gd_M_isAtRest_62 (by decide) ?_
            have e : (0 : Int32) = bI (y_rest T (i + 1)) := by show _ = bI (y_rest T i && decide (T.tk i = (T.line i).length) && decide (y_waits T i = 0)); rw [h27]; rfl
            rw [e]
            exact ih (i + 1) (by omega)
          ·
            replace h27 := bI_n.1 h27
            refine gz_aload_n gd_M_isAtRest_30 rfl rfl (gz_isr.r _) ?_
            refine md_getf gd_M_isAtRest_31 gf_M_63 hR rfl ?_
            refine gz_iload_n gd_M_isAtRest_34 rfl rfl ?_
            refine mt_iaload (a := 101) (i := i) gd_M_isAtRest_35 hR rfl rfl (show _ < 12 from (by omega)) (show _ = nI (T.tk i) from (hT.tk i (by omega))) ?_
            refine gz_aload_n gd_M_isAtRest_36 rfl rfl (gz_isr.r _) ?_
            refine md_getf gd_M_isAtRest_37 gf_M_53 hR rfl ?_
            refine gz_iload_n gd_M_isAtRest_40 rfl rfl ?_
            refine mt_iaload (a := 98) (i := i) gd_M_isAtRest_41 hR rfl rfl (show _ < 12 from (by omega)) (show _ = nI ((T.line i).length) from (hT.lineN i (by omega))) ?_
            refine gz_icmp_ne (tgt := 57) gd_M_isAtRest_42 (by decide) (fun h42 => ?_) (fun h42 => ?_)
            ·
              replace h42 := mt (nI_eq (a := T.tk i) (b := (T.line i).length) (by have := hI.1.tk i (by omega); have := hI.1.lineN i (by omega); omega) (by have := hI.1.tk i (by omega); have := hI.1.lineN i (by omega); omega)).2 h42
              refine gz_iconst (v := 0) gd_M_isAtRest_57 (by decide) ?_
              refine gz_istore_n gd_M_isAtRest_58 rfl (Nat.le_of_ble_eq_true rfl) rfl ?_
              refine gz_iinc (v := nI (i + 1)) gd_M_isAtRest_59 rfl (nI_1 i) (Nat.le_of_ble_eq_true rfl) rfl ?_
              refine gz_goto (tgt := 20) gd_M_isAtRest_62 (by decide) ?_
              have e : (0 : Int32) = bI (y_rest T (i + 1)) := by show _ = bI (y_rest T i && decide (T.tk i = (T.line i).length) && decide (y_waits T i = 0)); rw [h27, decide_eq_false h42]; rfl
              rw [e]
              exact ih (i + 1) (by omega)
            ·
              replace h42 := (nI_eq (a := T.tk i) (b := (T.line i).length) (by have := hI.1.tk i (by omega); have := hI.1.lineN i (by omega); omega) (by have := hI.1.tk i (by omega); have := hI.1.lineN i (by omega); omega)).1 h42
              refine gz_aload_n gd_M_isAtRest_45 rfl rfl (gz_isr.r _) ?_
              refine gz_iload_n gd_M_isAtRest_46 rfl rfl ?_
              refine gz_virtual1 gd_M_isAtRest_47 hR.1 rfl rfl gs_M_isAtRest_47 (Nat.le_of_ble_eq_true rfl) (Nat.le_of_ble_eq_true rfl) ?_
              refine m_waitsAt (T := T.w_code 0) (o := i) hR hT (by omega) hI.1.w_code ?_
              rw [waits_code]
              refine gz_if_ne (tgt := 57) gd_M_isAtRest_50 (by decide) (fun h50 => ?_) (fun h50 => ?_)
              ·
                replace h50 := mt (nI_z (by have := waits_le (T := T) (o := i) (by omega); have := hI.2.1; omega)).2 h50
                refine gz_iconst (v := 0) gd_M_isAtRest_57 (by decide) ?_
                refine gz_istore_n gd_M_isAtRest_58 rfl (Nat.le_of_ble_eq_true rfl) rfl ?_
                refine gz_iinc (v := nI (i + 1)) gd_M_isAtRest_59 rfl (nI_1 i) (Nat.le_of_ble_eq_true rfl) rfl ?_
                refine gz_goto (tgt := 20) gd_M_isAtRest_62 (by decide) ?_
                have e : (0 : Int32) = bI (y_rest T (i + 1)) := by show _ = bI (y_rest T i && decide (T.tk i = (T.line i).length) && decide (y_waits T i = 0)); rw [h27, decide_eq_true h42, decide_eq_false h50]; rfl
                rw [e]
                exact ih (i + 1) (by omega)
              ·
                replace h50 := (nI_z (by have := waits_le (T := T) (o := i) (by omega); have := hI.2.1; omega)).1 h50
                refine gz_iconst (v := 1) gd_M_isAtRest_53 (by decide) ?_
                refine gz_goto (tgt := 58) gd_M_isAtRest_54 (by decide) ?_
                refine gz_istore_n gd_M_isAtRest_58 rfl (Nat.le_of_ble_eq_true rfl) rfl ?_
                refine gz_iinc (v := nI (i + 1)) gd_M_isAtRest_59 rfl (nI_1 i) (Nat.le_of_ble_eq_true rfl) rfl ?_
                refine gz_goto (tgt := 20) gd_M_isAtRest_62 (by decide) ?_
                have e : (1 : Int32) = bI (y_rest T (i + 1)) := by show _ = bI (y_rest T i && decide (T.tk i = (T.line i).length) && decide (y_waits T i = 0)); rw [h27, decide_eq_true h42, decide_eq_true h50]; rfl
                rw [e]
                exact ih (i + 1) (by omega)
    have hl := loop 12 0 (by omega)
    rw [← hr0] at hl
    exact hl
  ·
    replace h9 := (nI_z (by have := hI.1.postN; omega)).1 h9
    refine gz_iconst (v := 1) gd_M_isAtRest_12 (by decide) ?_
    refine gz_goto (tgt := 17) gd_M_isAtRest_13 (by decide) ?_
    refine gz_istore_n gd_M_isAtRest_17 rfl (Nat.le_of_ble_eq_true rfl) rfl ?_
    refine gz_iconst (v := 0) gd_M_isAtRest_18 (by decide) ?_
    refine gz_istore_n gd_M_isAtRest_19 rfl (Nat.le_of_ble_eq_true rfl) rfl ?_
    have hr0 : (1 : Int32) = bI (y_rest T 0) := by show _ = bI (decide (T.post.length = 0)); rw [decide_eq_true h9]; rfl
    have loop : ∀ (j i : Nat), i + j = 12 →  GZ l P1 D F_M_isAtRest K 20 [some (.ref 83), some (.int (bI (y_rest T i))), some (.int (nI i))] [] M n nc ns := by
      intro j
      induction j with
      | zero =>
        intro i hi
        refine gz_iload_n gd_M_isAtRest_20 rfl rfl ?_
        refine gz_bipush (v := 12) gd_M_isAtRest_21 (by decide) ?_
        refine gz_icmp_ge (tgt := 65) gd_M_isAtRest_23 (by decide) (fun h23 => ?_) (fun h23 => ?_)
        ·
          replace h23 := (nI_leI (a := 12) (b := i) (by omega) (by omega)).1 h23
          refine gz_iload_n gd_M_isAtRest_65 rfl rfl ?_
          refine gz_ireturn gd_M_isAtRest_66 rfl (bI_nar _) ?_
          have e12 : i = 12 := by omega
          rw [e12]
          exact k _ _ hR hT
        ·
          replace h23 := mt (nI_leI (a := 12) (b := i) (by omega) (by omega)).2 h23
          omega
      | succ j ih =>
        intro i hi
        refine gz_iload_n gd_M_isAtRest_20 rfl rfl ?_
        refine gz_bipush (v := 12) gd_M_isAtRest_21 (by decide) ?_
        refine gz_icmp_ge (tgt := 65) gd_M_isAtRest_23 (by decide) (fun h23 => ?_) (fun h23 => ?_)
        ·
          replace h23 := (nI_leI (a := 12) (b := i) (by omega) (by omega)).1 h23
          omega
        ·
          replace h23 := mt (nI_leI (a := 12) (b := i) (by omega) (by omega)).2 h23
          refine gz_iload_n gd_M_isAtRest_26 rfl rfl ?_
          refine gz_if_eq (tgt := 57) gd_M_isAtRest_27 (by decide) (fun h27 => ?_) (fun h27 => ?_)
          ·
            replace h27 := bI_0.1 h27
            refine gz_iconst (v := 0) gd_M_isAtRest_57 (by decide) ?_
            refine gz_istore_n gd_M_isAtRest_58 rfl (Nat.le_of_ble_eq_true rfl) rfl ?_
            refine gz_iinc (v := nI (i + 1)) gd_M_isAtRest_59 rfl (nI_1 i) (Nat.le_of_ble_eq_true rfl) rfl ?_
            refine gz_goto (tgt := 20) gd_M_isAtRest_62 (by decide) ?_
            have e : (0 : Int32) = bI (y_rest T (i + 1)) := by show _ = bI (y_rest T i && decide (T.tk i = (T.line i).length) && decide (y_waits T i = 0)); rw [h27]; rfl
            rw [e]
            exact ih (i + 1) (by omega)
          ·
            replace h27 := bI_n.1 h27
            refine gz_aload_n gd_M_isAtRest_30 rfl rfl (gz_isr.r _) ?_
            refine md_getf gd_M_isAtRest_31 gf_M_63 hR rfl ?_
            refine gz_iload_n gd_M_isAtRest_34 rfl rfl ?_
            refine mt_iaload (a := 101) (i := i) gd_M_isAtRest_35 hR rfl rfl (show _ < 12 from (by omega)) (show _ = nI (T.tk i) from (hT.tk i (by omega))) ?_
            refine gz_aload_n gd_M_isAtRest_36 rfl rfl (gz_isr.r _) ?_
            refine md_getf gd_M_isAtRest_37 gf_M_53 hR rfl ?_
            refine gz_iload_n gd_M_isAtRest_40 rfl rfl ?_
            refine mt_iaload (a := 98) (i := i) gd_M_isAtRest_41 hR rfl rfl (show _ < 12 from (by omega)) (show _ = nI ((T.line i).length) from (hT.lineN i (by omega))) ?_
            refine gz_icmp_ne (tgt := 57) gd_M_isAtRest_42 (by decide) (fun h42 => ?_) (fun h42 => ?_)
            ·
              replace h42 := mt (nI_eq (a := T.tk i) (b := (T.line i).length) (by have := hI.1.tk i (by omega); have := hI.1.lineN i (by omega); omega) (by have := hI.1.tk i (by omega); have := hI.1.lineN i (by omega); omega)).2 h42
              refine gz_iconst (v := 0) gd_M_isAtRest_57 (by decide) ?_
              refine gz_istore_n gd_M_isAtRest_58 rfl (Nat.le_of_ble_eq_true rfl) rfl ?_
              refine gz_iinc (v := nI (i + 1)) gd_M_isAtRest_59 rfl (nI_1 i) (Nat.le_of_ble_eq_true rfl) rfl ?_
              refine gz_goto (tgt := 20) gd_M_isAtRest_62 (by decide) ?_
              have e : (0 : Int32) = bI (y_rest T (i + 1)) := by show _ = bI (y_rest T i && decide (T.tk i = (T.line i).length) && decide (y_waits T i = 0)); rw [h27, decide_eq_false h42]; rfl
              rw [e]
              exact ih (i + 1) (by omega)
            ·
              replace h42 := (nI_eq (a := T.tk i) (b := (T.line i).length) (by have := hI.1.tk i (by omega); have := hI.1.lineN i (by omega); omega) (by have := hI.1.tk i (by omega); have := hI.1.lineN i (by omega); omega)).1 h42
              refine gz_aload_n gd_M_isAtRest_45 rfl rfl (gz_isr.r _) ?_
              refine gz_iload_n gd_M_isAtRest_46 rfl rfl ?_
              refine gz_virtual1 gd_M_isAtRest_47 hR.1 rfl rfl gs_M_isAtRest_47 (Nat.le_of_ble_eq_true rfl) (Nat.le_of_ble_eq_true rfl) ?_
              refine m_waitsAt (T := T.w_code 0) (o := i) hR hT (by omega) hI.1.w_code ?_
              rw [waits_code]
              refine gz_if_ne (tgt := 57) gd_M_isAtRest_50 (by decide) (fun h50 => ?_) (fun h50 => ?_)
              ·
                replace h50 := mt (nI_z (by have := waits_le (T := T) (o := i) (by omega); have := hI.2.1; omega)).2 h50
                refine gz_iconst (v := 0) gd_M_isAtRest_57 (by decide) ?_
                refine gz_istore_n gd_M_isAtRest_58 rfl (Nat.le_of_ble_eq_true rfl) rfl ?_
                refine gz_iinc (v := nI (i + 1)) gd_M_isAtRest_59 rfl (nI_1 i) (Nat.le_of_ble_eq_true rfl) rfl ?_
                refine gz_goto (tgt := 20) gd_M_isAtRest_62 (by decide) ?_
                have e : (0 : Int32) = bI (y_rest T (i + 1)) := by show _ = bI (y_rest T i && decide (T.tk i = (T.line i).length) && decide (y_waits T i = 0)); rw [h27, decide_eq_true h42, decide_eq_false h50]; rfl
                rw [e]
                exact ih (i + 1) (by omega)
              ·
                replace h50 := (nI_z (by have := waits_le (T := T) (o := i) (by omega); have := hI.2.1; omega)).1 h50
                refine gz_iconst (v := 1) gd_M_isAtRest_53 (by decide) ?_
                refine gz_goto (tgt := 58) gd_M_isAtRest_54 (by decide) ?_
                refine gz_istore_n gd_M_isAtRest_58 rfl (Nat.le_of_ble_eq_true rfl) rfl ?_
                refine gz_iinc (v := nI (i + 1)) gd_M_isAtRest_59 rfl (nI_1 i) (Nat.le_of_ble_eq_true rfl) rfl ?_
                refine gz_goto (tgt := 20) gd_M_isAtRest_62 (by decide) ?_
                have e : (1 : Int32) = bI (y_rest T (i + 1)) := by show _ = bI (y_rest T i && decide (T.tk i = (T.line i).length) && decide (y_waits T i = 0)); rw [h27, decide_eq_true h42, decide_eq_true h50]; rfl
                rw [e]
                exact ih (i + 1) (by omega)
    have hl := loop 12 0 (by omega)
    rw [← hr0] at hl
    exact hl
