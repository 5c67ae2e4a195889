/-! The reference: inner methods, third part. Printed by wip/whole/m4.py -/
def y_kids (T : CT) (o : Nat) : Nat := sN 12 (fun c => if T.par c = some o then 1 else 0)
theorem m_childrenOf {l : Launch} {D : gzD} {K : gzK} {M : gzM} {n nc ns : Nat} {M0 : gzM} {S : gS} {L : gL} {T : CT} (hR : RF M0 S L M) (hT : Rel 12 true S T) {o : Nat} (ho : o < 12) (hB : Bd T) (k : K (.inl (some (.int (nI (y_kids T o))))) M n nc ns) : GZ l P1 D F_M_childrenOf K 0 [some (.ref 83), some (.int (nI o)), none, none] [] M n nc ns := by
  refine gz_iconst (v := 0) gd_M_childrenOf_0 (by decide) ?_
  refine gz_istore_n gd_M_childrenOf_1 rfl (Nat.le_of_ble_eq_true rfl) rfl ?_
  refine gz_iconst (v := 0) gd_M_childrenOf_2 (by decide) ?_
  refine gz_istore_n gd_M_childrenOf_3 rfl (Nat.le_of_ble_eq_true rfl) rfl ?_
  have loop : ∀ (j i : Nat), i + j = 12 → ∀ a, a = sN i (fun c => if T.par c = some o then 1 else 0) → GZ l P1 D F_M_childrenOf K 4 [some (.ref 83), some (.int (nI o)), some (.int (nI a)), some (.int (nI i))] [] M n nc ns := by
    intro j
    induction j with
    | zero =>
      intro i hi a ha
      refine gz_iload_n gd_M_childrenOf_4 rfl rfl ?_
      refine gz_bipush (v := 12) gd_M_childrenOf_5 (by decide) ?_
      refine gz_icmp_ge (tgt := 34) gd_M_childrenOf_7 (by decide) (fun h7 => ?_) (fun h7 => ?_)
      ·
        replace h7 := (nI_leI (a := 12) (b := i) (by omega) (by omega)).1 h7
        refine gz_iload_n gd_M_childrenOf_34 rfl rfl ?_
        refine gz_ireturn gd_M_childrenOf_35 rfl rfl ?_
        obtain rfl : i = 12 := by omega
        subst ha
        exact k
      ·
        replace h7 := mt (nI_leI (a := 12) (b := i) (by omega) (by omega)).2 h7
        omega
    | succ j ih =>
      intro i hi a ha
      refine gz_iload_n gd_M_childrenOf_4 rfl rfl ?_
      refine gz_bipush (v := 12) gd_M_childrenOf_5 (by decide) ?_
      refine gz_icmp_ge (tgt := 34) gd_M_childrenOf_7 (by decide) (fun h7 => ?_) (fun h7 => ?_)
      ·
        replace h7 := (nI_leI (a := 12) (b := i) (by omega) (by omega)).1 h7
        omega
      ·
        replace h7 := mt (nI_leI (a := 12) (b := i) (by omega) (by omega)).2 h7
        refine gz_iload_n gd_M_childrenOf_10 rfl rfl ?_
        refine gz_aload_n gd_M_childrenOf_11 rfl rfl (gz_isr.r _) ?_
        refine md_getf gd_M_childrenOf_12 gf_M_38 hR rfl ?_
        refine gz_iload_n gd_M_childrenOf_15 rfl rfl ?_
        refine mt_iaload (a := 93) (i := i) gd_M_childrenOf_16 hR rfl rfl (show _ < 12 from (by omega)) (hT.par i (by omega)) ?_
        refine gz_iload_n gd_M_childrenOf_17 rfl rfl ?_
        refine gz_icmp_ne (tgt := 25) gd_M_childrenOf_18 (by decide) (fun h18 => ?_) (fun h18 => ?_)
        ·
          replace h18 := mt (oI_eq (o := o) (fun j hj => hB.par _ _ (by omega) hj) (by omega)).2 h18
          refine gz_iconst (v := 0) gd_M_childrenOf_25 (by decide) ?_
          refine gq_iadd (z := nI (a + 0)) gd_M_childrenOf_26 (nI_add a 0) ?_
          refine gz_istore_n gd_M_childrenOf_27 rfl (Nat.le_of_ble_eq_true rfl) rfl ?_
          refine gz_iinc (v := nI (i + 1)) gd_M_childrenOf_28 rfl (nI_1 i) (Nat.le_of_ble_eq_true rfl) rfl ?_
          refine gz_goto (tgt := 4) gd_M_childrenOf_31 (by decide) ?_
          exact ih (i + 1) (by omega) _ (by rw [ha]; show _ = sN i (fun c => if T.par c = some o then 1 else 0) + (if T.par i = some o then 1 else 0); rw [if_neg h18])
        ·
          replace h18 := (oI_eq (o := o) (fun j hj => hB.par _ _ (by omega) hj) (by omega)).1 h18
          refine gz_iconst (v := 1) gd_M_childrenOf_21 (by decide) ?_
          refine gz_goto (tgt := 26) gd_M_childrenOf_22 (by decide) ?_
          refine gq_iadd (z := nI (a + 1)) gd_M_childrenOf_26 (nI_add a 1) ?_
          refine gz_istore_n gd_M_childrenOf_27 rfl (Nat.le_of_ble_eq_true rfl) rfl ?_
          refine gz_iinc (v := nI (i + 1)) gd_M_childrenOf_28 rfl (nI_1 i) (Nat.le_of_ble_eq_true rfl) rfl ?_
          refine gz_goto (tgt := 4) gd_M_childrenOf_31 (by decide) ?_
          exact ih (i + 1) (by omega) _ (by rw [ha]; show _ = sN i (fun c => if T.par c = some o then 1 else 0) + (if T.par i = some o then 1 else 0); rw [if_pos h18])
  exact loop 12 0 (by omega) 0 rfl

theorem m_waitsAt {l : Launch} {D : gzD} {K : gzK} {M : gzM} {n nc ns : Nat} {M0 : gzM} {S : gS} {L : gL} {T : CT} (hR : RF M0 S L M) (hT : Rel 12 true S T) {o : Nat} (ho : o < 12) (hB : Bd T) (k : K (.inl (some (.int (nI (y_waits T o))))) M n nc ns) : GZ l P1 D F_M_waitsAt K 0 [some (.ref 83), some (.int (nI o)), none, none] [] M n nc ns := by
  refine gz_iconst (v := 0) gd_M_waitsAt_0 (by decide) ?_
  refine gz_istore_n gd_M_waitsAt_1 rfl (Nat.le_of_ble_eq_true rfl) rfl ?_
  refine gz_iconst (v := 0) gd_M_waitsAt_2 (by decide) ?_
  refine gz_istore_n gd_M_waitsAt_3 rfl (Nat.le_of_ble_eq_true rfl) rfl ?_
  have loop : ∀ (j i : Nat), i + j = 40 → ∀ a, a = sN i (fun p => bN (T.ow o p)) → GZ l P1 D F_M_waitsAt K 4 [some (.ref 83), some (.int (nI o)), some (.int (nI a)), some (.int (nI i))] [] M n nc ns := by
    intro j
    induction j with
    | zero =>
      intro i hi a ha
      refine gz_iload_n gd_M_waitsAt_4 rfl rfl ?_
      refine gz_bipush (v := 40) gd_M_waitsAt_5 (by decide) ?_
      refine gz_icmp_ge (tgt := 38) gd_M_waitsAt_7 (by decide) (fun h7 => ?_) (fun h7 => ?_)
      ·
        replace h7 := (nI_leI (a := 40) (b := i) (by omega) (by omega)).1 h7
        refine gz_iconst (v := 0) gd_M_waitsAt_38 (by decide) ?_
        refine gz_istore_n gd_M_waitsAt_39 rfl (Nat.le_of_ble_eq_true rfl) rfl ?_
        obtain rfl : i = 40 := by omega
        have loop2 : ∀ (j i : Nat), i + j = 12 → ∀ a, a = sN 40 (fun p => bN (T.ow o p)) + sN i (fun c => if T.par c = some o then (T.wt c).length else 0) → GZ l P1 D F_M_waitsAt K 40 [some (.ref 83), some (.int (nI o)), some (.int (nI a)), some (.int (nI i))] [] M n nc ns := by
          intro j
          induction j with
          | zero =>
            intro i hi a ha
            refine gz_iload_n gd_M_waitsAt_40 rfl rfl ?_
            refine gz_bipush (v := 12) gd_M_waitsAt_41 (by decide) ?_
            refine gz_icmp_ge (tgt := 75) gd_M_waitsAt_43 (by decide) (fun h43 => ?_) (fun h43 => ?_)
            ·
              replace h43 := (nI_leI (a := 12) (b := i) (by omega) (by omega)).1 h43
              refine gz_iload_n gd_M_waitsAt_75 rfl rfl ?_
              refine gz_ireturn gd_M_waitsAt_76 rfl rfl ?_
              obtain rfl : i = 12 := by omega
              subst ha
              exact k
            ·
              replace h43 := mt (nI_leI (a := 12) (b := i) (by omega) (by omega)).2 h43
              omega
          | succ j ih =>
            intro i hi a ha
            refine gz_iload_n gd_M_waitsAt_40 rfl rfl ?_
            refine gz_bipush (v := 12) gd_M_waitsAt_41 (by decide) ?_
            refine gz_icmp_ge (tgt := 75) gd_M_waitsAt_43 (by decide) (fun h43 => ?_) (fun h43 => ?_)
            ·
              replace h43 := (nI_leI (a := 12) (b := i) (by omega) (by omega)).1 h43
              omega
            ·
              replace h43 := mt (nI_leI (a := 12) (b := i) (by omega) (by omega)).2 h43
              refine gz_iload_n gd_M_waitsAt_46 rfl rfl ?_
              refine gz_aload_n gd_M_waitsAt_47 rfl rfl (gz_isr.r _) ?_
              refine md_getf gd_M_waitsAt_48 gf_M_38 hR rfl ?_
              refine gz_iload_n gd_M_waitsAt_51 rfl rfl ?_
              refine mt_iaload (a := 93) (i := i) gd_M_waitsAt_52 hR rfl rfl (show _ < 12 from (by omega)) (hT.par i (by omega)) ?_
              refine gz_iload_n gd_M_waitsAt_53 rfl rfl ?_
              refine gz_icmp_ne (tgt := 66) gd_M_waitsAt_54 (by decide) (fun h54 => ?_) (fun h54 => ?_)
              ·
                replace h54 := mt (oI_eq (o := o) (fun j hj => hB.par _ _ (by omega) hj) (by omega)).2 h54
                refine gz_iconst (v := 0) gd_M_waitsAt_66 (by decide) ?_
                refine gq_iadd (z := nI (a + 0)) gd_M_waitsAt_67 (nI_add a 0) ?_
                refine gz_istore_n gd_M_waitsAt_68 rfl (Nat.le_of_ble_eq_true rfl) rfl ?_
                refine gz_iinc (v := nI (i + 1)) gd_M_waitsAt_69 rfl (nI_1 i) (Nat.le_of_ble_eq_true rfl) rfl ?_
                refine gz_goto (tgt := 40) gd_M_waitsAt_72 (by decide) ?_
                exact ih (i + 1) (by omega) _ (by rw [ha]; show _ = sN 40 (fun p => bN (T.ow o p)) + (sN i (fun c => if T.par c = some o then (T.wt c).length else 0) + (if T.par i = some o then (T.wt i).length else 0)); rw [if_neg h54, Nat.add_assoc])
              ·
                replace h54 := (oI_eq (o := o) (fun j hj => hB.par _ _ (by omega) hj) (by omega)).1 h54
                refine gz_aload_n gd_M_waitsAt_57 rfl rfl (gz_isr.r _) ?_
                refine md_getf gd_M_waitsAt_58 gf_M_66 hR rfl ?_
                refine gz_iload_n gd_M_waitsAt_61 rfl rfl ?_
                refine mt_iaload (a := 102) (i := i) gd_M_waitsAt_62 hR rfl rfl (show _ < 12 from (by omega)) (hT.wtN i (by omega) (by omega)) ?_
                refine gz_goto (tgt := 67) gd_M_waitsAt_63 (by decide) ?_
                refine gq_iadd (z := nI (a + (T.wt i).length)) gd_M_waitsAt_67 (nI_add a ((T.wt i).length)) ?_
                refine gz_istore_n gd_M_waitsAt_68 rfl (Nat.le_of_ble_eq_true rfl) rfl ?_
                refine gz_iinc (v := nI (i + 1)) gd_M_waitsAt_69 rfl (nI_1 i) (Nat.le_of_ble_eq_true rfl) rfl ?_
                refine gz_goto (tgt := 40) gd_M_waitsAt_72 (by decide) ?_
                exact ih (i + 1) (by omega) _ (by rw [ha]; show _ = sN 40 (fun p => bN (T.ow o p)) + (sN i (fun c => if T.par c = some o then (T.wt c).length else 0) + (if T.par i = some o then (T.wt i).length else 0)); rw [if_pos h54, Nat.add_assoc])
        exact loop2 12 0 (by omega) _ ha
      ·
        replace h7 := mt (nI_leI (a := 40) (b := i) (by omega) (by omega)).2 h7
        omega
    | succ j ih =>
      intro i hi a ha
      refine gz_iload_n gd_M_waitsAt_4 rfl rfl ?_
      refine gz_bipush (v := 40) gd_M_waitsAt_5 (by decide) ?_
      refine gz_icmp_ge (tgt := 38) gd_M_waitsAt_7 (by decide) (fun h7 => ?_) (fun h7 => ?_)
      ·
        replace h7 := (nI_leI (a := 40) (b := i) (by omega) (by omega)).1 h7
        omega
      ·
        replace h7 := mt (nI_leI (a := 40) (b := i) (by omega) (by omega)).2 h7
        refine gz_iload_n gd_M_waitsAt_10 rfl rfl ?_
        refine gz_aload_n gd_M_waitsAt_11 rfl rfl (gz_isr.r _) ?_
        refine md_getf gd_M_waitsAt_12 gf_M_50 hR rfl ?_
        refine gz_bipush (v := 40) gd_M_waitsAt_15 (by decide) ?_
        refine gz_iload_n gd_M_waitsAt_17 rfl rfl ?_
        refine gq_imul (z := nI (40 * o)) gd_M_waitsAt_18 (pk_mul 40 o) ?_
        refine gz_iload_n gd_M_waitsAt_19 rfl rfl ?_
        refine gq_iadd (z := nI (40 * o + i)) gd_M_waitsAt_20 (nI_add (40 * o) i) ?_
        refine mt_zaload (a := 97) (i := 40 * o + i) gd_M_waitsAt_21 hR rfl rfl (show _ < 480 from (by omega)) (hT.ow o i (by omega) (by omega)) ?_
        refine gz_if_eq (tgt := 29) gd_M_waitsAt_22 (by decide) (fun h22 => ?_) (fun h22 => ?_)
        ·
          replace h22 := bI_0.1 h22
          refine gz_iconst (v := 0) gd_M_waitsAt_29 (by decide) ?_
          refine gq_iadd (z := nI (a + 0)) gd_M_waitsAt_30 (nI_add a 0) ?_
          refine gz_istore_n gd_M_waitsAt_31 rfl (Nat.le_of_ble_eq_true rfl) rfl ?_
          refine gz_iinc (v := nI (i + 1)) gd_M_waitsAt_32 rfl (nI_1 i) (Nat.le_of_ble_eq_true rfl) rfl ?_
          refine gz_goto (tgt := 4) gd_M_waitsAt_35 (by decide) ?_
          exact ih (i + 1) (by omega) _ (by rw [ha]; show _ = sN i (fun p => bN (T.ow o p)) + bN (T.ow o i); rw [h22]; rfl)
        ·
          replace h22 := bI_n.1 h22
          refine gz_iconst (v := 1) gd_M_waitsAt_25 (by decide) ?_
          refine gz_goto (tgt := 30) gd_M_waitsAt_26 (by decide) ?_
          refine gq_iadd (z := nI (a + 1)) gd_M_waitsAt_30 (nI_add a 1) ?_
          refine gz_istore_n gd_M_waitsAt_31 rfl (Nat.le_of_ble_eq_true rfl) rfl ?_
          refine gz_iinc (v := nI (i + 1)) gd_M_waitsAt_32 rfl (nI_1 i) (Nat.le_of_ble_eq_true rfl) rfl ?_
          refine gz_goto (tgt := 4) gd_M_waitsAt_35 (by decide) ?_
          exact ih (i + 1) (by omega) _ (by rw [ha]; show _ = sN i (fun p => bN (T.ow o p)) + bN (T.ow o i); rw [h22]; rfl)
  exact loop 40 0 (by omega) 0 rfl

def y_un (T : CT) (a o : Nat) : Nat → CT
  | 0 => T
  | i + 1 => y_unset (y_un T a o i) a i o
def y_away (T : CT) (o : Nat) : CT := match T.par o with
  | none => T
  | some a => y_try (y_un (y_end T o) a o 40) a
theorem y_e1_ow {T : CT} {o : Nat} : (y_e1 T o).ow = T.ow := rfl
theorem y_e2_ow {T : CT} {o : Nat} : (y_e2 T o).ow = T.ow := rfl
theorem y_e3_ow {T : CT} {o : Nat} : (y_e3 T o).ow = T.ow := rfl
theorem y_e4_ow {T : CT} {o : Nat} : (y_e4 T o).ow = T.ow := rfl
theorem y_end_ow {T : CT} {o : Nat} : (y_end T o).ow = T.ow := by unfold y_end; rw [y_e4_ow, y_e2_ow, y_e3_ow, y_e1_ow]
theorem y_e1_last {T : CT} {o : Nat} : (y_e1 T o).last = T.last := rfl
theorem y_e2_last {T : CT} {o : Nat} : (y_e2 T o).last = T.last := rfl
theorem y_e3_last {T : CT} {o : Nat} : (y_e3 T o).last = T.last := rfl
theorem y_e4_last {T : CT} {o : Nat} : (y_e4 T o).last = T.last := rfl
theorem y_end_last {T : CT} {o : Nat} : (y_end T o).last = T.last := by unfold y_end; rw [y_e4_last, y_e2_last, y_e3_last, y_e1_last]
theorem JI.end {T : CT} (h : JI T) {o : Nat} (ho : o < 12) : JI (y_end T o) :=
  ⟨h.1.end, Nat.le_trans (pot_end ho) h.2.1, by rw [y_end_ow, y_end_last]; exact h.2.2⟩
theorem JI.unset {T : CT} (h : JI T) {o p j : Nat} (ho : o < 12) (hp : p < 40) (hP : pot T < 9000) : JI (y_unset T o p j) := by
  have h1 := pot_unset (T := T) (o := o) (p := p) (j := j) ho
  have h2 := pot_line (T := T) ho
  refine ⟨h.1.unset ho hp ?_, by omega, by rw [y_unset_ow, y_unset_last]; exact h.2.2⟩
  unfold pot at hP
  omega
theorem un_J {T : CT} (h : JI T) {a o : Nat} (ha : a < 12) (hP : pot T + 40 ≤ 9000) : ∀ i, i ≤ 40 → JI (y_un T a o i) ∧ pot (y_un T a o i) ≤ pot T + i
  | 0, _ => ⟨h, Nat.le_refl _⟩
  | i + 1, hi => by
    obtain ⟨h1, h2⟩ := un_J h ha hP i (by omega)
    have h3 := pot_unset (T := y_un T a o i) (o := a) (p := i) (j := o) ha
    exact ⟨h1.unset ha (by omega) (by omega), Nat.le_trans h3 (by omega)⟩
theorem away_J {T : CT} (h : JI T) {o : Nat} (ho : o < 12) (hP : pot T + 40 ≤ 9000) : JI (y_away T o) := by
  unfold y_away
  split
  · exact h
  · rename_i a ha
    have ha' := h.1.par o a ho ha
    have := pot_end (T := T) ho
    exact (all_J ha' _ _ (un_J (h.end ho) ha' (by omega) 40 (Nat.le_refl _)).1).1
theorem m_takeAway {l : Launch} {D : gzD} {K : gzK} {M : gzM} {n nc ns : Nat} {M0 : gzM} {S : gS} {L : gL} {T : CT} (hR : RF M0 S L M) (hT : Rel 12 true S T) {o : Nat} (ho : o < 12) (hI : JI T) (hP : pot T + 40 ≤ 9000) (k : ∀ S M, RF M0 S L M → Rel 12 true S (y_away T o) → K (.inl none) M n nc ns) : GZ l P1 D F_M_takeAway K 0 [some (.ref 83), some (.int (nI o)), none, none] [] M n nc ns := by
  cases hp : T.par o with
  | none =>
    refine gz_aload_n gd_M_takeAway_0 rfl rfl (gz_isr.r _) ?_
    refine md_getf gd_M_takeAway_1 gf_M_38 hR rfl ?_
    refine gz_iload_n gd_M_takeAway_4 rfl rfl ?_
    refine mt_iaload (a := 93) (i := o) gd_M_takeAway_5 hR rfl rfl (show _ < 12 from (by omega)) (show _ = (-1 : Int32) from by rw [hT.par o ho, hp]; rfl) ?_
    refine gz_istore_n gd_M_takeAway_6 rfl (Nat.le_of_ble_eq_true rfl) rfl ?_
    refine gz_iload_n gd_M_takeAway_7 rfl rfl ?_
    refine gz_if_ge (tgt := 12) gd_M_takeAway_8 (by decide) (fun h8 => ?_) (fun h8 => ?_)
    ·
      exact absurd h8 (by decide)
    ·
      refine gz_return gd_M_takeAway_11 rfl ?_
      exact k _ _ hR (by unfold y_away; rw [hp]; exact hT)
  | some a =>
    have ha := hI.1.par o a ho hp
    refine gz_aload_n gd_M_takeAway_0 rfl rfl (gz_isr.r _) ?_
    refine md_getf gd_M_takeAway_1 gf_M_38 hR rfl ?_
    refine gz_iload_n gd_M_takeAway_4 rfl rfl ?_
    refine mt_iaload (a := 93) (i := o) gd_M_takeAway_5 hR rfl rfl (show _ < 12 from (by omega)) (show _ = nI a from by rw [hT.par o ho, hp]; rfl) ?_
    refine gz_istore_n gd_M_takeAway_6 rfl (Nat.le_of_ble_eq_true rfl) rfl ?_
    refine gz_iload_n gd_M_takeAway_7 rfl rfl ?_
    refine gz_if_ge (tgt := 12) gd_M_takeAway_8 (by decide) (fun h8 => ?_) (fun h8 => ?_)
    ·
      refine gz_aload_n gd_M_takeAway_12 rfl rfl (gz_isr.r _) ?_
      refine gz_iload_n gd_M_takeAway_13 rfl rfl ?_
      refine gz_virtual1 gd_M_takeAway_14 hR.1 rfl rfl gs_M_takeAway_14 (Nat.le_of_ble_eq_true rfl) (Nat.le_of_ble_eq_true rfl) ?_
      refine m_endHanging (T := T) (o := o) hR hT ho (fun S M hR hT => ?_)
      refine gz_iconst (v := 0) gd_M_takeAway_17 (by decide) ?_
      refine gz_istore_n gd_M_takeAway_18 rfl (Nat.le_of_ble_eq_true rfl) rfl ?_
      have hE := pot_end (T := T) ho
      have loop : ∀ (j i : Nat), i + j = 40 → ∀ S M, RF M0 S L M → Rel 12 true S (y_un (y_end T o) a o i) → GZ l P1 D F_M_takeAway K 19 [some (.ref 83), some (.int (nI o)), some (.int (nI a)), some (.int (nI i))] [] M n nc ns := by
        intro j
        induction j with
        | zero =>
          intro i hi S M hR hT
          have hJ := un_J (o := o) (hI.end ho) ha (by omega) i (by omega)
          have hB := hJ.1.1
          refine gz_iload_n gd_M_takeAway_19 rfl rfl ?_
          refine gz_bipush (v := 40) gd_M_takeAway_20 (by decide) ?_
          refine gz_icmp_ge (tgt := 38) gd_M_takeAway_22 (by decide) (fun h22 => ?_) (fun h22 => ?_)
          ·
            replace h22 := (nI_leI (a := 40) (b := i) (by omega) (by omega)).1 h22
            obtain rfl : i = 40 := by omega
            refine gz_aload_n gd_M_takeAway_38 rfl rfl (gz_isr.r _) ?_
            refine gz_iload_n gd_M_takeAway_39 rfl rfl ?_
            refine gz_virtual1 gd_M_takeAway_40 hR.1 rfl rfl gs_M_takeAway_40 (Nat.le_of_ble_eq_true rfl) (Nat.le_of_ble_eq_true rfl) ?_
            refine m_tryAll (T := y_un (y_end T o) a o 40) (o := a) hR hT (by omega) hJ.1 (fun S M hR hT => ?_)
            refine gz_return gd_M_takeAway_43 rfl ?_
            exact k _ _ hR (by unfold y_away; rw [hp]; exact hT)
          ·
            replace h22 := mt (nI_leI (a := 40) (b := i) (by omega) (by omega)).2 h22
            omega
        | succ j ih =>
          intro i hi S M hR hT
          have hJ := un_J (o := o) (hI.end ho) ha (by omega) i (by omega)
          have hB := hJ.1.1
          refine gz_iload_n gd_M_takeAway_19 rfl rfl ?_
          refine gz_bipush (v := 40) gd_M_takeAway_20 (by decide) ?_
          refine gz_icmp_ge (tgt := 38) gd_M_takeAway_22 (by decide) (fun h22 => ?_) (fun h22 => ?_)
          ·
            replace h22 := (nI_leI (a := 40) (b := i) (by omega) (by omega)).1 h22
            omega
          ·
            replace h22 := mt (nI_leI (a := 40) (b := i) (by omega) (by omega)).2 h22
            refine gz_aload_n gd_M_takeAway_25 rfl rfl (gz_isr.r _) ?_
            refine gz_iload_n gd_M_takeAway_26 rfl rfl ?_
            refine gz_iload_n gd_M_takeAway_27 rfl rfl ?_
            refine gz_iload_n gd_M_takeAway_28 rfl rfl ?_
            refine gz_virtual3 gd_M_takeAway_29 hR.1 rfl rfl gs_M_takeAway_29 (Nat.le_of_ble_eq_true rfl) (Nat.le_of_ble_eq_true rfl) ?_
            refine m_unset (T := y_un (y_end T o) a o i) (o := a) (p := i) (j := o) hR hT ha (by omega) ho (by have := hB.shown a i ha (by omega); have := hB.vs; omega) (hB.srcN a i ha (by omega)) (fun z hz => hB.src a i z ha (by omega) hz) (fun z hz => hB.par a z ha hz) (by have h1 := pot_line (T := y_un (y_end T o) a o i) ha; have h3 := hJ.2; unfold pot at h3 hE hP; omega) hB.postN (fun S M hR hT => ?_)
            refine gz_iinc (v := nI (i + 1)) gd_M_takeAway_32 rfl (nI_1 i) (Nat.le_of_ble_eq_true rfl) rfl ?_
            refine gz_goto (tgt := 19) gd_M_takeAway_35 (by decide) ?_
            exact ih (i + 1) (by omega) _ _ hR hT
      exact loop 40 0 (by omega) _ _ hR hT
    ·
      exact absurd (nI_pos' (by omega)) h8

def y_und (T : CT) (top : Nat) : Nat → Option Nat → Option Bool
  | 0, _ => none
  | _ + 1, none => some false
  | k + 1, some a => if a = top then some true else y_und T top k (T.par a)
theorem m_isUnder {l : Launch} {D : gzD} {K : gzK} {M : gzM} {n nc ns : Nat} {M0 : gzM} {S : gS} {L : gL} {T : CT} (hR : RF M0 S L M) (hT : Rel 12 true S T) {o top q : Nat} {r : Bool} (ho : o < 12) (ht : top < 12) (hB : Bd T) (hq : y_und T top q (some o) = some r) (k : K (.inl (some (.int (bI r)))) M n nc ns) : GZ l P1 D F_M_isUnder K 0 [some (.ref 83), some (.int (nI o)), some (.int (nI top)), none] [] M n nc ns := by
  refine gz_iload_n gd_M_isUnder_0 rfl rfl ?_
  refine gz_istore_n gd_M_isUnder_1 rfl (Nat.le_of_ble_eq_true rfl) rfl ?_
  have loop : ∀ (q : Nat) (a : Option Nat), (∀ j, a = some j → j < 12) → y_und T top q a = some r → GZ l P1 D F_M_isUnder K 2 [some (.ref 83), some (.int (nI o)), some (.int (nI top)), some (.int (oI a))] [] M n nc ns := by
    intro q
    induction q with
    | zero =>
      intro a ha hq
      cases hq
    | succ q ih =>
      intro a ha hq
      cases a with
      | none =>
        refine gz_iload_n gd_M_isUnder_2 rfl rfl ?_
        refine gz_if_lt (tgt := 21) gd_M_isUnder_3 (by decide) (fun h3 => ?_) (fun h3 => ?_)
        ·
          replace h3 := (oI_lt (fun j hj => by cases hj)).1 h3
          refine gz_iload_n gd_M_isUnder_21 rfl rfl ?_
          refine gz_iload_n gd_M_isUnder_22 rfl rfl ?_
          refine gz_icmp_ne (tgt := 30) gd_M_isUnder_23 (by decide) (fun h23 => ?_) (fun h23 => ?_)
          ·
            replace h23 := mt (oI_eq (o := top) (fun j hj => by cases hj) (by omega)).2 h23
            refine gz_iconst (v := 0) gd_M_isUnder_30 (by decide) ?_
            refine gz_ireturn gd_M_isUnder_31 rfl rfl ?_
            cases hq
            exact k
          ·
            replace h23 := (oI_eq (o := top) (fun j hj => by cases hj) (by omega)).1 h23
            cases h23
        ·
          replace h3 := mt (oI_lt (fun j hj => by cases hj)).2 h3
          exact absurd rfl h3
      | some a =>
        have ha2 := ha a rfl
        refine gz_iload_n gd_M_isUnder_2 rfl rfl ?_
        refine gz_if_lt (tgt := 21) gd_M_isUnder_3 (by decide) (fun h3 => ?_) (fun h3 => ?_)
        ·
          exact absurd h3 (nI_pos (by omega))
        ·
          refine gz_iload_n gd_M_isUnder_6 rfl rfl ?_
          refine gz_iload_n gd_M_isUnder_7 rfl rfl ?_
          refine gz_icmp_eq (tgt := 21) gd_M_isUnder_8 (by decide) (fun h8 => ?_) (fun h8 => ?_)
          ·
            replace h8 := (nI_eq (a := a) (b := top) (by omega) (by omega)).1 h8
            refine gz_iload_n gd_M_isUnder_21 rfl rfl ?_
            refine gz_iload_n gd_M_isUnder_22 rfl rfl ?_
            refine gz_icmp_ne (tgt := 30) gd_M_isUnder_23 (by decide) (fun h23 => ?_) (fun h23 => ?_)
            ·
              replace h23 := mt (nI_eq (a := a) (b := top) (by omega) (by omega)).2 h23
              exact absurd h8 h23
            ·
              replace h23 := (nI_eq (a := a) (b := top) (by omega) (by omega)).1 h23
              refine gz_iconst (v := 1) gd_M_isUnder_26 (by decide) ?_
              refine gz_goto (tgt := 31) gd_M_isUnder_27 (by decide) ?_
              refine gz_ireturn gd_M_isUnder_31 rfl rfl ?_
              rw [show y_und T top (q + 1) (some a) = some true from if_pos h8] at hq
              cases hq
              exact k
          ·
            replace h8 := mt (nI_eq (a := a) (b := top) (by omega) (by omega)).2 h8
            refine gz_aload_n gd_M_isUnder_11 rfl rfl (gz_isr.r _) ?_
            refine md_getf gd_M_isUnder_12 gf_M_38 hR rfl ?_
            refine gz_iload_n gd_M_isUnder_15 rfl rfl ?_
            refine mt_iaload (a := 93) (i := a) gd_M_isUnder_16 hR rfl rfl (show _ < 12 from (by omega)) (hT.par a (by omega)) ?_
            refine gz_istore_n gd_M_isUnder_17 rfl (Nat.le_of_ble_eq_true rfl) rfl ?_
            refine gz_goto (tgt := 2) gd_M_isUnder_18 (by decide) ?_
            exact ih (T.par a) (fun j hj => hB.par a j ha2 hj) (by rw [← hq]; exact (if_neg h8).symm)
  exact loop q (some o) (fun j hj => by cases hj; exact ho) hq

theorem in_ix {x hi : Int32} {n : Nat} (hn : n + 1 < 2 ^ 31) (he : hi = nI n) (h0 : ¬ x < 0) (h1 : ¬ hi < x) : ∃ p, p < n + 1 ∧ x = nI p := by
  rcases pk_ix x (n := n + 1) hn with h | h | h
  · exact absurd h h0
  · obtain ⟨j, hj, rfl⟩ := nI_of h0
    rw [nI_leI hn hj] at h
    rw [he, nI_ltI (by omega) hj] at h1
    omega
  · exact h
theorem pl_ix {x : Int32} (h0 : ¬ x < 0) (h1 : ¬ 39 < x) : ∃ p, p < 40 ∧ x = nI p := in_ix (n := 39) (by decide) rfl h0 h1
theorem of_ix {x : Int32} (h0 : ¬ x < 0) (h1 : ¬ 11 < x) : ∃ p, p < 12 ∧ x = nI p := in_ix (n := 11) (by decide) rfl h0 h1
theorem op_ix {x : Int32} (h0 : ¬ x < 0) (h1 : ¬ 5 < x) : ∃ p, p < 6 ∧ x = nI p := in_ix (n := 5) (by decide) rfl h0 h1
theorem m_isPrecinct {l : Launch} {D : gzD} {K : gzK} {M : gzM} {n nc ns : Nat} {M0 : gzM} {S : gS} {L : gL} {T : CT} (hR : RF M0 S L M) (hT : Rel 12 true S T) {x : Int32} (k1 : ∀ p, p < 40 → x = nI p → T.there p = true → K (.inl (some (.int 1))) M n nc ns) (k0 : (x < 0 ∨ 39 < x) ∨ (∃ p, p < 40 ∧ x = nI p ∧ T.there p = false) → K (.inl (some (.int 0))) M n nc ns) : GZ l P1 D F_M_isPrecinct K 0 [some (.ref 83), some (.int x)] [] M n nc ns := by
  refine gz_iload_n gd_M_isPrecinct_0 rfl rfl ?_
  refine gz_static1 gd_M_isPrecinct_1 gs_M_isPrecinct_1 (Nat.le_of_ble_eq_true rfl) (Nat.le_of_ble_eq_true rfl) ?_
  refine m_isPlace (fun ha hb => ?_) (fun ha => ?_)
  ·
    obtain ⟨p, hp, rfl⟩ := pl_ix ha hb
    refine gz_if_eq (tgt := 20) gd_M_isPrecinct_4 (by decide) (fun h4 => ?_) (fun h4 => ?_)
    ·
      exact absurd h4 (by decide)
    ·
      refine gz_aload_n gd_M_isPrecinct_7 rfl rfl (gz_isr.r _) ?_
      refine md_getf gd_M_isPrecinct_8 gf_M_7 hR rfl ?_
      refine gz_iload_n gd_M_isPrecinct_11 rfl rfl ?_
      refine mt_zaload (a := 84) (i := p) gd_M_isPrecinct_12 hR rfl rfl (show _ < 40 from (by omega)) (hT.there p (by omega)) ?_
      refine gz_if_eq (tgt := 20) gd_M_isPrecinct_13 (by decide) (fun h13 => ?_) (fun h13 => ?_)
      ·
        replace h13 := bI_0.1 h13
        refine gz_iconst (v := 0) gd_M_isPrecinct_20 (by decide) ?_
        refine gz_ireturn gd_M_isPrecinct_21 rfl rfl ?_
        exact k0 (Or.inr ⟨p, hp, rfl, h13⟩)
      ·
        replace h13 := bI_n.1 h13
        refine gz_iconst (v := 1) gd_M_isPrecinct_16 (by decide) ?_
        refine gz_goto (tgt := 21) gd_M_isPrecinct_17 (by decide) ?_
        refine gz_ireturn gd_M_isPrecinct_21 rfl rfl ?_
        exact k1 p hp rfl h13
  ·
    refine gz_if_eq (tgt := 20) gd_M_isPrecinct_4 (by decide) (fun h4 => ?_) (fun h4 => ?_)
    ·
      refine gz_iconst (v := 0) gd_M_isPrecinct_20 (by decide) ?_
      refine gz_ireturn gd_M_isPrecinct_21 rfl rfl ?_
      exact k0 (Or.inl ha)
    ·
      exact absurd h4 (by decide)
