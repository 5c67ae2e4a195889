/-! The class: counts and trying. Printed by wip/whole/h2.py -/
theorem h_ownW {l : Launch} {D : gzD} {K : gzK} {M : gzM} {n nc ns : Nat} {M0 : gzM} {b : Nat} {v : gV} {g : gG} {T : CT} (hC : RC M0 b v g T M n nc ns) (hB : Bd T) {o : Nat} (ho : o < 12) (k : K (.inl (some (.int (nI (sN 40 (fun p => bN (T.ow o p))))))) M n nc ns) : GZ l P1 D F_O_ownWaitingCount K 0 [some (.ref (11 + 6 * o)), none, none] [] M n nc ns := by
  refine gz_iconst (v := 0) gd_O_ownWaitingCount_0 (by decide) ?_
  refine gz_istore_n gd_O_ownWaitingCount_1 rfl (Nat.le_of_ble_eq_true rfl) rfl ?_
  refine gz_iconst (v := 0) gd_O_ownWaitingCount_2 (by decide) ?_
  refine gz_istore_n gd_O_ownWaitingCount_3 rfl (Nat.le_of_ble_eq_true rfl) rfl ?_
  have loop : ∀ (j i : Nat), i + j = 40 → ∀ a, a = sN i (fun p => bN (T.ow o p)) → GZ l P1 D F_O_ownWaitingCount K 4 [some (.ref (11 + 6 * o)), some (.int (nI a)), some (.int (nI i))] [] M n nc ns := by
    intro j
    induction j with
    | zero =>
      intro i hi a ha
      refine gz_iload_n gd_O_ownWaitingCount_4 rfl rfl ?_
      refine gz_bipush (v := 40) gd_O_ownWaitingCount_5 (by decide) ?_
      refine gz_icmp_ge (tgt := 28) gd_O_ownWaitingCount_7 (by decide) (fun h7 => ?_) (fun h7 => ?_)
      ·
        replace h7 := (nI_leI (a := 40) (b := i) (by omega) (by omega)).1 h7
        refine gz_iload_n gd_O_ownWaitingCount_28 rfl rfl ?_
        refine gz_ireturn gd_O_ownWaitingCount_29 rfl rfl ?_
        obtain rfl : i = 40 := by omega
        subst ha
        exact k
      ·
        replace h7 := mt (nI_leI (a := 40) (b := i) (by omega) (by omega)).2 h7
        omega
    | succ j ih =>
      intro i hi a ha
      refine gz_iload_n gd_O_ownWaitingCount_4 rfl rfl ?_
      refine gz_bipush (v := 40) gd_O_ownWaitingCount_5 (by decide) ?_
      refine gz_icmp_ge (tgt := 28) gd_O_ownWaitingCount_7 (by decide) (fun h7 => ?_) (fun h7 => ?_)
      ·
        replace h7 := (nI_leI (a := 40) (b := i) (by omega) (by omega)).1 h7
        omega
      ·
        replace h7 := mt (nI_leI (a := 40) (b := i) (by omega) (by omega)).2 h7
        refine gz_aload_n gd_O_ownWaitingCount_10 rfl rfl (gz_isr.r _) ?_
        refine gq_getf (y := .ref (14 + 6 * o)) gd_O_ownWaitingCount_11 gf_O_21 (hC.1.off o (by omega)) rfl rfl ?_
        refine gz_iload_n gd_O_ownWaitingCount_14 rfl rfl ?_
        refine rc_ow (o := o) (p := i) gd_O_ownWaitingCount_15 hC (by omega) (by omega) ?_
        refine gz_if_eq (tgt := 22) gd_O_ownWaitingCount_16 (by decide) (fun h16 => ?_) (fun h16 => ?_)
        ·
          replace h16 := bI_0.1 h16
          refine gz_iinc (v := nI (i + 1)) gd_O_ownWaitingCount_22 rfl (nI_1 i) (Nat.le_of_ble_eq_true rfl) rfl ?_
          refine gz_goto (tgt := 4) gd_O_ownWaitingCount_25 (by decide) ?_
          exact ih (i + 1) (by omega) _ (by rw [ha]; show _ = sN i (fun p => bN (T.ow o p)) + bN (T.ow o i); rw [h16]; rfl)
        ·
          replace h16 := bI_n.1 h16
          refine gz_iinc (v := nI (a + 1)) gd_O_ownWaitingCount_19 rfl (nI_1 a) (Nat.le_of_ble_eq_true rfl) rfl ?_
          refine gz_iinc (v := nI (i + 1)) gd_O_ownWaitingCount_22 rfl (nI_1 i) (Nat.le_of_ble_eq_true rfl) rfl ?_
          refine gz_goto (tgt := 4) gd_O_ownWaitingCount_25 (by decide) ?_
          exact ih (i + 1) (by omega) _ (by rw [ha]; show _ = sN i (fun p => bN (T.ow o p)) + bN (T.ow o i); rw [h16]; rfl)
  exact loop 40 0 (by omega) 0 rfl

theorem h_waits {l : Launch} {D : gzD} {K : gzK} {M : gzM} {n nc ns : Nat} {M0 : gzM} {b : Nat} {v : gV} {g : gG} {T : CT} (hC : RC M0 b v g T M n nc ns) (hB : Bd T) {o : Nat} (ho : o < 12) (k : K (.inl (some (.int (nI (y_waits T o))))) M n nc ns) : GZ l P1 D F_H_waitingCount K 0 [some (.ref 3), some (.ref (11 + 6 * o)), none, none] [] M n nc ns := by
  refine gz_aload_n gd_H_waitingCount_0 rfl rfl (gz_isr.r _) ?_
  refine gz_virtual0 gd_H_waitingCount_1 (hC.1.off o (by omega)) rfl rfl gs_H_waitingCount_1 (Nat.le_of_ble_eq_true rfl) (Nat.le_of_ble_eq_true rfl) ?_
  refine h_ownW hC hB (by omega) ?_
  refine gz_istore_n gd_H_waitingCount_4 rfl (Nat.le_of_ble_eq_true rfl) rfl ?_
  refine gz_iconst (v := 0) gd_H_waitingCount_5 (by decide) ?_
  refine gz_istore_n gd_H_waitingCount_6 rfl (Nat.le_of_ble_eq_true rfl) rfl ?_
  have loop : ∀ (j i : Nat), i + j = 12 → ∀ a, a = sN 40 (fun p => bN (T.ow o p)) + sN i (fun c => if T.par c = some o then (T.wt c).length else 0) → GZ l P1 D F_H_waitingCount K 7 [some (.ref 3), some (.ref (11 + 6 * o)), some (.int (nI a)), some (.int (nI i))] [] M n nc ns := by
    intro j
    induction j with
    | zero =>
      intro i hi a ha
      refine gz_iload_n gd_H_waitingCount_7 rfl rfl ?_
      refine gz_bipush (v := 12) gd_H_waitingCount_8 (by decide) ?_
      refine gz_icmp_ge (tgt := 50) gd_H_waitingCount_10 (by decide) (fun h10 => ?_) (fun h10 => ?_)
      ·
        replace h10 := (nI_leI (a := 12) (b := i) (by omega) (by omega)).1 h10
        refine gz_iload_n gd_H_waitingCount_50 rfl rfl ?_
        refine gz_ireturn gd_H_waitingCount_51 rfl rfl ?_
        obtain rfl : i = 12 := by omega
        subst ha
        exact k
      ·
        replace h10 := mt (nI_leI (a := 12) (b := i) (by omega) (by omega)).2 h10
        omega
    | succ j ih =>
      intro i hi a ha
      refine gz_iload_n gd_H_waitingCount_7 rfl rfl ?_
      refine gz_bipush (v := 12) gd_H_waitingCount_8 (by decide) ?_
      refine gz_icmp_ge (tgt := 50) gd_H_waitingCount_10 (by decide) (fun h10 => ?_) (fun h10 => ?_)
      ·
        replace h10 := (nI_leI (a := 12) (b := i) (by omega) (by omega)).1 h10
        omega
      ·
        replace h10 := mt (nI_leI (a := 12) (b := i) (by omega) (by omega)).2 h10
        refine gz_aload_n gd_H_waitingCount_13 rfl rfl (gz_isr.r _) ?_
        refine gq_getf (y := .ref (5)) gd_H_waitingCount_14 gf_H_17 hC.1.house rfl rfl ?_
        refine gz_iload_n gd_H_waitingCount_17 rfl rfl ?_
        refine rc_offs (o := i) gd_H_waitingCount_18 hC (by omega) ?_
        refine gq_getf (y := .int (oI (T.par i))) gd_H_waitingCount_19 gf_H_138 (hC.1.off i (by omega)) rfl rfl ?_
        refine gz_aload_n gd_H_waitingCount_22 rfl rfl (gz_isr.r _) ?_
        refine gq_getf (y := .int (nI o)) gd_H_waitingCount_23 gf_H_318 (hC.1.off o (by omega)) rfl rfl ?_
        refine gz_icmp_ne (tgt := 44) gd_H_waitingCount_26 (by decide) (fun h26 => ?_) (fun h26 => ?_)
        ·
          replace h26 := mt (oI_eq (o := o) (fun j hj => hB.par _ _ (by omega) hj) (by omega)).2 h26
          refine gz_iinc (v := nI (i + 1)) gd_H_waitingCount_44 rfl (nI_1 i) (Nat.le_of_ble_eq_true rfl) rfl ?_
          refine gz_goto (tgt := 7) gd_H_waitingCount_47 (by decide) ?_
          exact ih (i + 1) (by omega) _ (by rw [ha]; show _ = sN 40 (fun p => bN (T.ow o p)) + (sN i (fun c => if T.par c = some o then (T.wt c).length else 0) + (if T.par i = some o then (T.wt i).length else 0)); rw [if_neg h26]; rfl)
        ·
          replace h26 := (oI_eq (o := o) (fun j hj => hB.par _ _ (by omega) hj) (by omega)).1 h26
          refine gz_iload_n gd_H_waitingCount_29 rfl rfl ?_
          refine gz_aload_n gd_H_waitingCount_30 rfl rfl (gz_isr.r _) ?_
          refine gq_getf (y := .ref (5)) gd_H_waitingCount_31 gf_H_17 hC.1.house rfl rfl ?_
          refine gz_iload_n gd_H_waitingCount_34 rfl rfl ?_
          refine rc_offs (o := i) gd_H_waitingCount_35 hC (by omega) ?_
          refine gq_getf (y := .ref (16 + 6 * i)) gd_H_waitingCount_36 gf_H_338 (hC.1.off i (by omega)) rfl rfl ?_
          obtain ⟨mcx, hLO⟩ := hC.1.loW i (by omega)
          refine gz_virtual0 gd_H_waitingCount_39 hLO rfl rfl gs_H_waitingCount_39 (Nat.le_of_ble_eq_true rfl) (Nat.le_of_ble_eq_true rfl) ?_
          refine rl_sizeW hC (by omega) ?_
          refine gq_iadd (z := nI (a + (T.wt i).length)) gd_H_waitingCount_42 (nI_add a ((T.wt i).length)) ?_
          refine gz_istore_n gd_H_waitingCount_43 rfl (Nat.le_of_ble_eq_true rfl) rfl ?_
          refine gz_iinc (v := nI (i + 1)) gd_H_waitingCount_44 rfl (nI_1 i) (Nat.le_of_ble_eq_true rfl) rfl ?_
          refine gz_goto (tgt := 7) gd_H_waitingCount_47 (by decide) ?_
          exact ih (i + 1) (by omega) _ (by rw [ha]; show _ = sN 40 (fun p => bN (T.ow o p)) + (sN i (fun c => if T.par c = some o then (T.wt c).length else 0) + (if T.par i = some o then (T.wt i).length else 0)); rw [if_pos h26, Nat.add_assoc])
  exact loop 12 0 (by omega) _ rfl

theorem h_kids {l : Launch} {D : gzD} {K : gzK} {M : gzM} {n nc ns : Nat} {M0 : gzM} {b : Nat} {v : gV} {g : gG} {T : CT} (hC : RC M0 b v g T M n nc ns) (hB : Bd T) {o : Nat} (ho : o < 12) (k : K (.inl (some (.int (nI (y_kids T o))))) M n nc ns) : GZ l P1 D F_H_childCount K 0 [some (.ref 3), some (.int (nI o)), none, none] [] M n nc ns := by
  refine gz_iconst (v := 0) gd_H_childCount_0 (by decide) ?_
  refine gz_istore_n gd_H_childCount_1 rfl (Nat.le_of_ble_eq_true rfl) rfl ?_
  refine gz_iconst (v := 0) gd_H_childCount_2 (by decide) ?_
  refine gz_istore_n gd_H_childCount_3 rfl (Nat.le_of_ble_eq_true rfl) rfl ?_
  have loop : ∀ (j i : Nat), i + j = 12 → ∀ a, a = sN i (fun c => if T.par c = some o then 1 else 0) → GZ l P1 D F_H_childCount K 4 [some (.ref 3), some (.int (nI o)), some (.int (nI a)), some (.int (nI i))] [] M n nc ns := by
    intro j
    induction j with
    | zero =>
      intro i hi a ha
      refine gz_iload_n gd_H_childCount_4 rfl rfl ?_
      refine gz_bipush (v := 12) gd_H_childCount_5 (by decide) ?_
      refine gz_icmp_ge (tgt := 32) gd_H_childCount_7 (by decide) (fun h7 => ?_) (fun h7 => ?_)
      ·
        replace h7 := (nI_leI (a := 12) (b := i) (by omega) (by omega)).1 h7
        refine gz_iload_n gd_H_childCount_32 rfl rfl ?_
        refine gz_ireturn gd_H_childCount_33 rfl rfl ?_
        obtain rfl : i = 12 := by omega
        subst ha
        exact k
      ·
        replace h7 := mt (nI_leI (a := 12) (b := i) (by omega) (by omega)).2 h7
        omega
    | succ j ih =>
      intro i hi a ha
      refine gz_iload_n gd_H_childCount_4 rfl rfl ?_
      refine gz_bipush (v := 12) gd_H_childCount_5 (by decide) ?_
      refine gz_icmp_ge (tgt := 32) gd_H_childCount_7 (by decide) (fun h7 => ?_) (fun h7 => ?_)
      ·
        replace h7 := (nI_leI (a := 12) (b := i) (by omega) (by omega)).1 h7
        omega
      ·
        replace h7 := mt (nI_leI (a := 12) (b := i) (by omega) (by omega)).2 h7
        refine gz_aload_n gd_H_childCount_10 rfl rfl (gz_isr.r _) ?_
        refine gq_getf (y := .ref (5)) gd_H_childCount_11 gf_H_17 hC.1.house rfl rfl ?_
        refine gz_iload_n gd_H_childCount_14 rfl rfl ?_
        refine rc_offs (o := i) gd_H_childCount_15 hC (by omega) ?_
        refine gq_getf (y := .int (oI (T.par i))) gd_H_childCount_16 gf_H_138 (hC.1.off i (by omega)) rfl rfl ?_
        refine gz_iload_n gd_H_childCount_19 rfl rfl ?_
        refine gz_icmp_ne (tgt := 26) gd_H_childCount_20 (by decide) (fun h20 => ?_) (fun h20 => ?_)
        ·
          replace h20 := mt (oI_eq (o := o) (fun j hj => hB.par _ _ (by omega) hj) (by omega)).2 h20
          refine gz_iinc (v := nI (i + 1)) gd_H_childCount_26 rfl (nI_1 i) (Nat.le_of_ble_eq_true rfl) rfl ?_
          refine gz_goto (tgt := 4) gd_H_childCount_29 (by decide) ?_
          exact ih (i + 1) (by omega) _ (by rw [ha]; show _ = sN i (fun c => if T.par c = some o then 1 else 0) + (if T.par i = some o then 1 else 0); rw [if_neg h20]; rfl)
        ·
          replace h20 := (oI_eq (o := o) (fun j hj => hB.par _ _ (by omega) hj) (by omega)).1 h20
          refine gz_iinc (v := nI (a + 1)) gd_H_childCount_23 rfl (nI_1 a) (Nat.le_of_ble_eq_true rfl) rfl ?_
          refine gz_iinc (v := nI (i + 1)) gd_H_childCount_26 rfl (nI_1 i) (Nat.le_of_ble_eq_true rfl) rfl ?_
          refine gz_goto (tgt := 4) gd_H_childCount_29 (by decide) ?_
          exact ih (i + 1) (by omega) _ (by rw [ha]; show _ = sN i (fun c => if T.par c = some o then 1 else 0) + (if T.par i = some o then 1 else 0); rw [if_pos h20])
  exact loop 12 0 (by omega) 0 rfl

theorem h_shownC {l : Launch} {D : gzD} {K : gzK} {M : gzM} {n nc ns : Nat} {M0 : gzM} {b : Nat} {v : gV} {g : gG} {T : CT} (hC : RC M0 b v g T M n nc ns) (hB : Bd T) {o : Nat} (ho : o < 12) (k : K (.inl (some (.int (nI (y_sc T o))))) M n nc ns) : GZ l P1 D F_O_shownCount K 0 [some (.ref (11 + 6 * o)), none, none] [] M n nc ns := by
  refine gz_iconst (v := 0) gd_O_shownCount_0 (by decide) ?_
  refine gz_istore_n gd_O_shownCount_1 rfl (Nat.le_of_ble_eq_true rfl) rfl ?_
  refine gz_iconst (v := 0) gd_O_shownCount_2 (by decide) ?_
  refine gz_istore_n gd_O_shownCount_3 rfl (Nat.le_of_ble_eq_true rfl) rfl ?_
  have loop : ∀ (j i : Nat), i + j = 40 → ∀ a, a = sN i (fun p => if T.shown o p = 0 then 0 else 1) → GZ l P1 D F_O_shownCount K 4 [some (.ref (11 + 6 * o)), some (.int (nI a)), some (.int (nI i))] [] M n nc ns := by
    intro j
    induction j with
    | zero =>
      intro i hi a ha
      refine gz_iload_n gd_O_shownCount_4 rfl rfl ?_
      refine gz_bipush (v := 40) gd_O_shownCount_5 (by decide) ?_
      refine gz_icmp_ge (tgt := 28) gd_O_shownCount_7 (by decide) (fun h7 => ?_) (fun h7 => ?_)
      ·
        replace h7 := (nI_leI (a := 40) (b := i) (by omega) (by omega)).1 h7
        refine gz_iload_n gd_O_shownCount_28 rfl rfl ?_
        refine gz_ireturn gd_O_shownCount_29 rfl rfl ?_
        obtain rfl : i = 40 := by omega
        subst ha
        exact k
      ·
        replace h7 := mt (nI_leI (a := 40) (b := i) (by omega) (by omega)).2 h7
        omega
    | succ j ih =>
      intro i hi a ha
      refine gz_iload_n gd_O_shownCount_4 rfl rfl ?_
      refine gz_bipush (v := 40) gd_O_shownCount_5 (by decide) ?_
      refine gz_icmp_ge (tgt := 28) gd_O_shownCount_7 (by decide) (fun h7 => ?_) (fun h7 => ?_)
      ·
        replace h7 := (nI_leI (a := 40) (b := i) (by omega) (by omega)).1 h7
        omega
      ·
        replace h7 := mt (nI_leI (a := 40) (b := i) (by omega) (by omega)).2 h7
        refine gz_aload_n gd_O_shownCount_10 rfl rfl (gz_isr.r _) ?_
        refine gq_getf (y := .ref (12 + 6 * o)) gd_O_shownCount_11 gf_O_11 (hC.1.off o (by omega)) rfl rfl ?_
        refine gz_iload_n gd_O_shownCount_14 rfl rfl ?_
        refine rc_shown (o := o) (p := i) gd_O_shownCount_15 hC (by omega) (by omega) ?_
        refine rc_nullV (tgt := 22) gd_O_shownCount_16 (by decide) (fun h16 => ?_) (fun h16 => ?_)
        ·
          try rw [vref_0 h16]
          refine gz_iinc (v := nI (i + 1)) gd_O_shownCount_22 rfl (nI_1 i) (Nat.le_of_ble_eq_true rfl) rfl ?_
          refine gz_goto (tgt := 4) gd_O_shownCount_25 (by decide) ?_
          exact ih (i + 1) (by omega) _ (by rw [ha]; show _ = sN i (fun p => if T.shown o p = 0 then 0 else 1) + (if T.shown o i = 0 then 0 else 1); rw [if_pos h16]; rfl)
        ·
          try rw [vref_s h16]
          refine gz_iinc (v := nI (a + 1)) gd_O_shownCount_19 rfl (nI_1 a) (Nat.le_of_ble_eq_true rfl) rfl ?_
          refine gz_iinc (v := nI (i + 1)) gd_O_shownCount_22 rfl (nI_1 i) (Nat.le_of_ble_eq_true rfl) rfl ?_
          refine gz_goto (tgt := 4) gd_O_shownCount_25 (by decide) ?_
          exact ih (i + 1) (by omega) _ (by rw [ha]; show _ = sN i (fun p => if T.shown o p = 0 then 0 else 1) + (if T.shown o i = 0 then 0 else 1); rw [if_neg h16])
  exact loop 40 0 (by omega) 0 rfl

theorem JI.owroom {T : CT} (h : JI T) {o p : Nat} (ho : o < 12) (hp : p < 40) (hw : T.ow o p = true) : (T.line o).length < 9000 := by
  have h1 := h.2.1
  have h2 := pot_line (T := T) ho
  have h3 := pot_ow (T := T) ho hp
  rw [hw] at h3
  have h4 : bN true = 1 := rfl
  unfold pot at h1
  omega
theorem JI.wtroom {T : CT} (h : JI T) {o c : Nat} (ho : o < 12) (hc : c < 12) (hw : 0 < (T.wt c).length) : (T.line o).length < 9000 := by
  have h1 := h.2.1
  have h2 := pot_line (T := T) ho
  have h3 := pot_wt (T := T) hc
  unfold pot at h1
  omega
theorem RC.ow_same {M0 : gzM} {b : Nat} {v : gV} {g : gG} {T : CT} {M : gzM} {n nc ns : Nat} (h : RC M0 b v g T M n nc ns) {o p : Nat} (hw : T.ow o p = true) : RC M0 b v g (T.w_ow (ct2 T.ow o p true)) M n nc ns := by
  have e : (T.w_ow (ct2 T.ow o p true)).ow = T.ow := by
    show ct2 T.ow o p true = T.ow
    funext x y
    unfold ct2
    by_cases c : x = o ∧ y = p
    · rw [if_pos c, c.1, c.2, hw]
    · rw [if_neg c]
  exact ⟨h.1.ofT rfl rfl rfl rfl rfl rfl rfl rfl rfl rfl rfl e rfl rfl rfl, h.2.1.ofT rfl rfl rfl rfl rfl rfl rfl rfl rfl rfl rfl, h.2.2.ofT e rfl⟩
theorem r1_t {T : CT} {o i : Nat} (h : (y_r1 T o i).1.ow o i = true) : y_r1 T o (i + 1) = (y_own (y_r1 T o i).1 o i, (y_r1 T o i).2 || y_may (y_r1 T o i).1 o i o) := if_pos h
theorem r1_f {T : CT} {o i : Nat} (h : (y_r1 T o i).1.ow o i = false) : y_r1 T o (i + 1) = y_r1 T o i := if_neg (by rw [h]; exact Bool.false_ne_true)
theorem r1_fr {T : CT} {o : Nat} : ∀ i, (y_r1 T o i).1.there = T.there ∧ (y_r1 T o i).1.last = T.last
  | 0 => ⟨rfl, rfl⟩
  | i + 1 => by
    have ih := r1_fr (T := T) (o := o) i
    cases h : (y_r1 T o i).1.ow o i
    · rw [r1_f h]; exact ih
    · rw [r1_t h]
      exact ⟨y_own_there.trans ih.1, y_own_last.trans ih.2⟩
def TL (T : CT) : Prop := ∀ p, p < 40 → 0 < T.last p → T.there p = true
theorem h_tryOwn {l : Launch} {D : gzD} {K : gzK} {M : gzM} {n nc ns : Nat} {M0 : gzM} {b : Nat} {v : gV} {g : gG} {T : CT} (hC : RC M0 (b + 2) v g T M n nc ns)(hD : RM D) (hb : b + 10 ≤ 300000) {o : Nat} (ho : o < 12) (hI : JI T) (hTL : TL T) (k : ∀ g M n nc ns, RC M0 (b + 2) v g ((y_r1 T o 40).1) M n nc ns → K (.inl (some (.int (bI (y_r1 T o 40).2)))) M n nc ns) : GZ l P1 D F_H_tryOwn K 0 [some (.ref 3), some (.ref (11 + 6 * o)), none, none, none] [] M n nc ns := by
  refine gz_iconst (v := 0) gd_H_tryOwn_0 (by decide) ?_
  refine gz_istore_n gd_H_tryOwn_1 rfl (Nat.le_of_ble_eq_true rfl) rfl ?_
  refine gz_iconst (v := 0) gd_H_tryOwn_2 (by decide) ?_
  refine gz_istore_n gd_H_tryOwn_3 rfl (Nat.le_of_ble_eq_true rfl) rfl ?_
  have loop : ∀ (j i : Nat), i + j = 40 → ∀ (y4 : Option Value) g M n nc ns, RC M0 (b + 2) v g (y_r1 T o i).1 M n nc ns → GZ l P1 D F_H_tryOwn K 4 [some (.ref 3), some (.ref (11 + 6 * o)), some (.int (bI (y_r1 T o i).2)), some (.int (nI i)), y4] [] M n nc ns := by
    intro j
    induction j with
    | zero =>
      intro i hi y4 g M n nc ns hC
      have hG := (r1_J (o := o) hI ho i (by omega)).1
      have hfr := r1_fr (T := T) (o := o) i
      refine gz_iload_n gd_H_tryOwn_4 rfl rfl ?_
      refine gz_bipush (v := 40) gd_H_tryOwn_5 (by decide) ?_
      refine gz_icmp_ge (tgt := 74) gd_H_tryOwn_7 (by decide) (fun h7 => ?_) (fun h7 => ?_)
      ·
        replace h7 := (nI_leI (a := 40) (b := i) (by omega) (by omega)).1 h7
        refine gz_iload_n gd_H_tryOwn_74 rfl rfl ?_
        refine gz_ireturn gd_H_tryOwn_75 rfl (bI_nar _) ?_
        obtain rfl : i = 40 := by omega
        exact k _ _ _ _ _ hC
      ·
        replace h7 := mt (nI_leI (a := 40) (b := i) (by omega) (by omega)).2 h7
        omega
    | succ j ih =>
      intro i hi y4 g M n nc ns hC
      have hG := (r1_J (o := o) hI ho i (by omega)).1
      have hfr := r1_fr (T := T) (o := o) i
      refine gz_iload_n gd_H_tryOwn_4 rfl rfl ?_
      refine gz_bipush (v := 40) gd_H_tryOwn_5 (by decide) ?_
      refine gz_icmp_ge (tgt := 74) gd_H_tryOwn_7 (by decide) (fun h7 => ?_) (fun h7 => ?_)
      ·
        replace h7 := (nI_leI (a := 40) (b := i) (by omega) (by omega)).1 h7
        omega
      ·
        replace h7 := mt (nI_leI (a := 40) (b := i) (by omega) (by omega)).2 h7
        refine gz_aload_n gd_H_tryOwn_10 rfl rfl (gz_isr.r _) ?_
        refine gq_getf (y := .ref (4)) gd_H_tryOwn_11 gf_H_11 hC.1.house rfl rfl ?_
        refine gz_iload_n gd_H_tryOwn_14 rfl rfl ?_
        refine rc_precs (p := i) gd_H_tryOwn_15 hC (by omega) ?_
        refine gz_astore gd_H_tryOwn_16 (Nat.le_of_ble_eq_true rfl) rfl (pref_isr _ _ _) ?_
        refine gz_aload gd_H_tryOwn_18 rfl (pref_isr _ _ _) ?_
        refine rc_nullP (tgt := 68) gd_H_tryOwn_20 (by decide) (fun h20 => ?_) (fun h20 => ?_)
        ·
          try rw [pref_f h20]
          refine gz_iinc (v := nI (i + 1)) gd_H_tryOwn_68 rfl (nI_1 i) (Nat.le_of_ble_eq_true rfl) rfl ?_
          refine gz_goto (tgt := 4) gd_H_tryOwn_71 (by decide) ?_
          have hw : (y_r1 T o i).1.ow o i = false := by
            cases e : (y_r1 T o i).1.ow o i
            · rfl
            · have h1 := hTL i (by omega) (by rw [← hfr.2]; exact hG.2.2 o i ho (by omega) e)
              rw [← hfr.1, h20] at h1
              cases h1
          rw [← r1_f hw]
          rw [← r1_f hw] at hC
          exact ih (i + 1) (by omega) _ _ _ _ _ _ hC
        ·
          try rw [pref_t h20]
          refine gz_aload_n gd_H_tryOwn_23 rfl rfl (gz_isr.r _) ?_
          refine gq_getf (y := .ref (14 + 6 * o)) gd_H_tryOwn_24 gf_H_322 (hC.1.off o (by omega)) rfl rfl ?_
          refine gz_iload_n gd_H_tryOwn_27 rfl rfl ?_
          refine rc_ow (o := o) (p := i) gd_H_tryOwn_28 hC (by omega) (by omega) ?_
          refine gz_if_eq (tgt := 68) gd_H_tryOwn_29 (by decide) (fun h29 => ?_) (fun h29 => ?_)
          ·
            replace h29 := bI_0.1 h29
            refine gz_iinc (v := nI (i + 1)) gd_H_tryOwn_68 rfl (nI_1 i) (Nat.le_of_ble_eq_true rfl) rfl ?_
            refine gz_goto (tgt := 4) gd_H_tryOwn_71 (by decide) ?_
            rw [← r1_f h29]
            rw [← r1_f h29] at hC
            exact ih (i + 1) (by omega) _ _ _ _ _ _ hC
          ·
            replace h29 := bI_n.1 h29
            refine gz_aload_n gd_H_tryOwn_32 rfl rfl (gz_isr.r _) ?_
            refine gz_iload_n gd_H_tryOwn_33 rfl rfl ?_
            refine gz_aload_n gd_H_tryOwn_34 rfl rfl (gz_isr.r _) ?_
            refine gq_getf (y := .int (nI o)) gd_H_tryOwn_35 gf_H_318 (hC.1.off o (by omega)) rfl rfl ?_
            refine gz_virtual2 gd_H_tryOwn_38 (hC.1.off o (by omega)) rfl rfl gs_H_tryOwn_38 (Nat.le_of_ble_eq_true rfl) (Nat.le_of_ble_eq_true rfl) ?_
            refine h_admits hC (by omega) (by omega) (by omega) hG.1 ?_
            refine gz_if_eq (tgt := 68) gd_H_tryOwn_41 (by decide) (fun h41 => ?_) (fun h41 => ?_)
            ·
              replace h41 := bI_0.1 h41
              refine gz_iinc (v := nI (i + 1)) gd_H_tryOwn_68 rfl (nI_1 i) (Nat.le_of_ble_eq_true rfl) rfl ?_
              refine gz_goto (tgt := 4) gd_H_tryOwn_71 (by decide) ?_
              have e := r1_t h29
              have hC2 : RC M0 (b + 2) v g (y_r1 T o (i + 1)).1 M n nc ns := by
                rw [e]
                show RC M0 (b + 2) v g (y_own (y_r1 T o i).1 o i) M n nc ns
                rw [show y_own (y_r1 T o i).1 o i = (y_r1 T o i).1.w_ow (ct2 (y_r1 T o i).1.ow o i true) from if_neg (by rw [h41]; exact Bool.false_ne_true)]
                exact hC.ow_same h29
              have e2 : (y_r1 T o (i + 1)).2 = (y_r1 T o i).2 := by rw [e, h41]; exact Bool.or_false _
              rw [← e2]
              exact ih (i + 1) (by omega) _ _ _ _ _ _ hC2
            ·
              replace h41 := bI_n.1 h41
              refine gz_aload_n gd_H_tryOwn_44 rfl rfl (gz_isr.r _) ?_
              refine gq_getf (y := .ref (14 + 6 * o)) gd_H_tryOwn_45 gf_H_322 (hC.1.off o (by omega)) rfl rfl ?_
              refine gz_iload_n gd_H_tryOwn_48 rfl rfl ?_
              refine gz_iconst (v := 0) gd_H_tryOwn_49 (by decide) ?_
              refine rs_owF (o := o) (p := i) gd_H_tryOwn_50 hC (by omega) (by omega) h29 (fun M hC => ?_)
              refine gz_aload_n gd_H_tryOwn_51 rfl rfl (gz_isr.r _) ?_
              refine gz_aload_n gd_H_tryOwn_52 rfl rfl (gz_isr.r _) ?_
              refine gz_iload_n gd_H_tryOwn_53 rfl rfl ?_
              refine gz_aload gd_H_tryOwn_54 rfl (gz_isr.r _) ?_
              refine gq_getf (y := vref v ((((y_r1 T o i).1).p_ow o i false).last i)) gd_H_tryOwn_56 gf_H_103 (hC.2.1.pobj i (by omega) h20) rfl rfl ?_
              refine gz_aload_n gd_H_tryOwn_59 rfl rfl (gz_isr.r _) ?_
              refine gq_getf (y := .int (nI o)) gd_H_tryOwn_60 gf_H_318 (hC.1.off o (by omega)) rfl rfl ?_
              refine gz_virtual4 gd_H_tryOwn_63 hC.1.house rfl rfl gs_H_tryOwn_63 (gz_slen5 rfl rfl rfl (vref_cat _ _) rfl (Nat.le_of_ble_eq_true rfl)) (Nat.le_of_ble_eq_true rfl) ?_
              rw [gz_ent5 rfl rfl rfl (vref_cat _ _) rfl]
              refine h_include (T := (y_r1 T o i).1.p_ow o i false) hC hD (by omega) (by omega) (by omega) (hG.1.last i (by omega)) (fun j hj => hG.1.par o j ho hj) (hG.owroom ho (by omega) h29) (fun g1 M3 n1 nc1 ns1 hC => ?_)
              refine gz_iconst (v := 1) gd_H_tryOwn_66 (by decide) ?_
              refine gz_istore_n gd_H_tryOwn_67 rfl (Nat.le_of_ble_eq_true rfl) rfl ?_
              refine gz_iinc (v := nI (i + 1)) gd_H_tryOwn_68 rfl (nI_1 i) (Nat.le_of_ble_eq_true rfl) rfl ?_
              refine gz_goto (tgt := 4) gd_H_tryOwn_71 (by decide) ?_
              have e := r1_t h29
              have hC2 : RC M0 (b + 2) v g1 (y_r1 T o (i + 1)).1 M3 n1 nc1 ns1 := by
                rw [e]
                show RC M0 (b + 2) v g1 (y_own (y_r1 T o i).1 o i) M3 n1 nc1 ns1
                rw [show y_own (y_r1 T o i).1 o i = y_set ((y_r1 T o i).1.w_ow (ct2 (y_r1 T o i).1.ow o i false)) o i ((y_r1 T o i).1.last i) (some o) from if_pos h41]
                exact hC
              have e2 : (y_r1 T o (i + 1)).2 = true := by rw [e, h41]; exact Bool.or_true _
              rw [show (Value.int 1) = Value.int (bI (y_r1 T o (i + 1)).2) by rw [e2]; rfl]
              exact ih (i + 1) (by omega) _ _ _ _ _ _ hC2
  exact loop 40 0 (by omega) none g M n nc ns hC

theorem h_tryChild {l : Launch} {D : gzD} {K : gzK} {M : gzM} {n nc ns : Nat} {M0 : gzM} {b : Nat} {v : gV} {g : gG} {T : CT} (hC : RC M0 (b + 2) v g T M n nc ns)(hD : RM D) (hb : b + 10 ≤ 300000) {o c : Nat} (ho : o < 12) (hc : c < 12) (hI : JI T) (k : ∀ g M n nc ns, RC M0 (b + 2) v g ((y_wh o c (T.wt c).length T false).1) M n nc ns → K (.inl (some (.int (bI (y_wh o c (T.wt c).length T false).2)))) M n nc ns) : GZ l P1 D F_H_tryChild K 0 [some (.ref 3), some (.ref (11 + 6 * o)), some (.ref (11 + 6 * c)), none, none, none] [] M n nc ns := by
  have hwn := hI.1.wtN c hc
  refine gz_iconst (v := 0) gd_H_tryChild_0 (by decide) ?_
  refine gz_istore_n gd_H_tryChild_1 rfl (Nat.le_of_ble_eq_true rfl) rfl ?_
  refine gz_aload_n gd_H_tryChild_2 rfl rfl (gz_isr.r _) ?_
  refine gq_getf (y := .ref (16 + 6 * c)) gd_H_tryChild_3 gf_H_338 (hC.1.off c (by omega)) rfl rfl ?_
  obtain ⟨mcx, hLO⟩ := hC.1.loW c (by omega)
  refine gz_virtual0 gd_H_tryChild_6 hLO rfl rfl gs_H_tryChild_6 (Nat.le_of_ble_eq_true rfl) (Nat.le_of_ble_eq_true rfl) ?_
  refine rl_sizeW hC (by omega) ?_
  refine gz_istore gd_H_tryChild_9 (Nat.le_of_ble_eq_true rfl) rfl ?_
  have loop : ∀ (q : Nat) (G : CT) (m : Bool) (y5 : Option Value) g M n nc ns, (G.wt c).length = q → JI G → RC M0 (b + 2) v g G M n nc ns → (∀ g M n nc ns, RC M0 (b + 2) v g (y_wh o c q G m).1 M n nc ns → K (.inl (some (.int (bI (y_wh o c q G m).2)))) M n nc ns) → GZ l P1 D F_H_tryChild K 11 [some (.ref 3), some (.ref (11 + 6 * o)), some (.ref (11 + 6 * c)), some (.int (bI m)), some (.int (nI q)), y5] [] M n nc ns := by
    intro q
    induction q with
    | zero =>
      intro G m y5 g M n nc ns hq hI hC k
      refine gz_iload gd_H_tryChild_11 rfl ?_
      refine gz_if_le (tgt := 83) gd_H_tryChild_13 (by decide) (fun h13 => ?_) (fun h13 => ?_)
      ·
        replace h13 := (nI_le0 (by omega)).1 h13
        refine gz_iload_n gd_H_tryChild_83 rfl rfl ?_
        refine gz_ireturn gd_H_tryChild_84 rfl (bI_nar _) ?_
        exact k _ _ _ _ _ hC
      ·
        replace h13 := mt (nI_le0 (by omega)).2 h13
        omega
    | succ q ih =>
      intro G m y5 g M n nc ns hq hI hC k
      obtain ⟨x, xs, hx⟩ : ∃ x xs, G.wt c = x :: xs := by
        cases e : G.wt c with
        | nil => rw [e] at hq; cases hq
        | cons x xs => exact ⟨x, xs, rfl⟩
      have hq2 : xs.length = q := by rw [hx] at hq; exact Nat.succ.inj hq
      have hxb := hI.1.wt c x hc (by rw [hx]; exact List.mem_cons_self)
      have hvs := hI.1.vs
      have hqn := hI.1.wtN c hc
      refine gz_iload gd_H_tryChild_11 rfl ?_
      refine gz_if_le (tgt := 83) gd_H_tryChild_13 (by decide) (fun h13 => ?_) (fun h13 => ?_)
      ·
        replace h13 := (nI_le0 (by omega)).1 h13
        omega
      ·
        replace h13 := mt (nI_le0 (by omega)).2 h13
        refine gz_aload_n gd_H_tryChild_16 rfl rfl (gz_isr.r _) ?_
        refine gq_getf (y := .ref (16 + 6 * c)) gd_H_tryChild_17 gf_H_338 (hC.1.off c (by omega)) rfl rfl ?_
        refine gz_iconst (v := 0) gd_H_tryChild_20 (by decide) ?_
        obtain ⟨mcx, hLO⟩ := hC.1.loW c (by omega)
        refine gz_virtual1 gd_H_tryChild_21 hLO rfl rfl gs_H_tryChild_21 (Nat.le_of_ble_eq_true rfl) (Nat.le_of_ble_eq_true rfl) ?_
        refine rl_getW (i := 0) (y := x) hC hc (by rw [hx]; rfl) (fun kk hkk => ?_)
        refine gz_cast gd_H_tryChild_24 (ci := 1) rfl gw_426 hkk ?_
        refine gz_astore gd_H_tryChild_27 (Nat.le_of_ble_eq_true rfl) rfl (gz_isr.r _) ?_
        refine gz_aload_n gd_H_tryChild_29 rfl rfl (gz_isr.r _) ?_
        refine gz_aload gd_H_tryChild_30 rfl (gz_isr.r _) ?_
        refine gq_getf (y := .int (nI x.1)) gd_H_tryChild_32 gf_H_213 hkk rfl rfl ?_
        refine gz_aload_n gd_H_tryChild_35 rfl rfl (gz_isr.r _) ?_
        refine gq_getf (y := .int (nI c)) gd_H_tryChild_36 gf_H_318 (hC.1.off c (by omega)) rfl rfl ?_
        refine gz_virtual2 gd_H_tryChild_39 (hC.1.off o (by omega)) rfl rfl gs_H_tryChild_39 (Nat.le_of_ble_eq_true rfl) (Nat.le_of_ble_eq_true rfl) ?_
        refine h_admits hC (by omega) (by omega) (by omega) hI.1 ?_
        refine gz_if_ne (tgt := 47) gd_H_tryChild_42 (by decide) (fun h42 => ?_) (fun h42 => ?_)
        ·
          replace h42 := bI_n.1 h42
          refine gz_aload_n gd_H_tryChild_47 rfl rfl (gz_isr.r _) ?_
          refine gq_getf (y := .ref (16 + 6 * c)) gd_H_tryChild_48 gf_H_338 (hC.1.off c (by omega)) rfl rfl ?_
          refine gz_iconst (v := 0) gd_H_tryChild_51 (by decide) ?_
          obtain ⟨mcx, hLO⟩ := hC.1.loW c (by omega)
          refine gz_virtual1 gd_H_tryChild_52 hLO rfl rfl gs_H_tryChild_52 (Nat.le_of_ble_eq_true rfl) (Nat.le_of_ble_eq_true rfl) ?_
          refine rl_remW (i := 0) hC hc (by omega) (fun g1 M1 n1 nc1 ns1 z hz hC hK => ?_)
          replace hkk := hK _ 1 _ (Or.inl rfl) hkk
          rw [show (G.wt c).eraseIdx 0 = xs by rw [hx]; rfl] at hC
          refine gz_pop gd_H_tryChild_55 (by rcases hz with e | ⟨r, e⟩ <;> rw [e] <;> rfl) ?_
          refine gz_aload_n gd_H_tryChild_56 rfl rfl (gz_isr.r _) ?_
          refine gz_aload_n gd_H_tryChild_57 rfl rfl (gz_isr.r _) ?_
          refine gz_aload gd_H_tryChild_58 rfl (gz_isr.r _) ?_
          refine gq_getf (y := .int (nI x.1)) gd_H_tryChild_60 gf_H_213 hkk rfl rfl ?_
          refine gz_aload gd_H_tryChild_63 rfl (gz_isr.r _) ?_
          refine gq_getf (y := vref v x.2) gd_H_tryChild_65 gf_H_208 hkk rfl rfl ?_
          refine gz_aload_n gd_H_tryChild_68 rfl rfl (gz_isr.r _) ?_
          refine gq_getf (y := .int (nI c)) gd_H_tryChild_69 gf_H_318 (hC.1.off c (by omega)) rfl rfl ?_
          refine gz_virtual4 gd_H_tryChild_72 hC.1.house rfl rfl gs_H_tryChild_72 (gz_slen5 rfl rfl rfl (vref_cat _ _) rfl (Nat.le_of_ble_eq_true rfl)) (Nat.le_of_ble_eq_true rfl) ?_
          rw [gz_ent5 rfl rfl rfl (vref_cat _ _) rfl]
          refine h_include (T := G.w_wt (ct1 G.wt c xs)) hC hD (by omega) ho (by omega) hxb.2.2 (fun j hj => hI.1.par o j ho hj) (hI.wtroom ho hc (by omega)) (fun g1 M3 n1 nc1 ns1 hC => ?_)
          refine gz_iconst (v := 1) gd_H_tryChild_75 (by decide) ?_
          refine gz_istore_n gd_H_tryChild_76 rfl (Nat.le_of_ble_eq_true rfl) rfl ?_
          refine gz_iinc (v := nI q) gd_H_tryChild_77 rfl (pk_m1 q) (Nat.le_of_ble_eq_true rfl) rfl ?_
          refine gz_goto (tgt := 11) gd_H_tryChild_80 (by decide) ?_
          have hf : y_first G o c = some (y_set (G.w_wt (ct1 G.wt c xs)) o x.1 x.2 (some c)) := by
            unfold y_first
            rw [hx]
            exact if_pos h42
          have e : y_wh o c (q + 1) G m = y_wh o c q (y_set (G.w_wt (ct1 G.wt c xs)) o x.1 x.2 (some c)) true := by
            simp only [y_wh, hf]
          rw [e] at k
          have hxs : (y_set (G.w_wt (ct1 G.wt c xs)) o x.1 x.2 (some c)).wt c = xs := by
            rw [y_set_wt]
            exact if_pos rfl
          exact ih _ true _ _ _ _ _ _ (by rw [hxs]; exact hq2) (hI.first ho hc hf) hC k
        ·
          replace h42 := bI_0.1 h42
          refine gz_iload_n gd_H_tryChild_45 rfl rfl ?_
          refine gz_ireturn gd_H_tryChild_46 rfl (bI_nar _) ?_
          have hf : y_first G o c = none := by
            unfold y_first
            rw [hx]
            exact if_neg (by rw [h42]; exact Bool.false_ne_true)
          rw [show y_wh o c (q + 1) G m = (G, m) by simp only [y_wh, hf]] at k
          exact k _ _ _ _ _ hC
  exact loop _ T false none g M n nc ns rfl hI hC k

theorem wh_m {o c : Nat} : ∀ (k : Nat) (T : CT) (m : Bool), y_wh o c k T m = ((y_wh o c k T false).1, m || (y_wh o c k T false).2)
  | 0, T, m => by simp [y_wh]
  | k + 1, T, m => by
    cases hf : y_first T o c with
    | none => simp [y_wh, hf]
    | some T' =>
      simp only [y_wh, hf]
      rw [wh_m k T' true]
      simp
theorem r1_0 {T : CT} {o : Nat} (h : ∀ p, p < 40 → T.ow o p = false) : ∀ i, i ≤ 40 → y_r1 T o i = (T, false)
  | 0, _ => rfl
  | i + 1, hi => by
    have ih := r1_0 h i (by omega)
    rw [r1_f (by rw [ih]; exact h i (by omega)), ih]
theorem r2_0 {T : CT} {o : Nat} (h : ∀ c, c < 12 → T.par c = some o → (T.wt c).length = 0) : ∀ i, i ≤ 12 → y_r2 (T, false) o i = (T, false)
  | 0, _ => rfl
  | i + 1, hi => by
    have ih := r2_0 h i (by omega)
    simp only [y_r2]
    rw [ih]
    by_cases c : T.par i = some o
    · rw [if_pos c, h i (by omega) c]
      rfl
    · rw [if_neg c]
theorem rd_0 {T : CT} {o : Nat} (h : y_waits T o = 0) : y_rd T o = (T, false) := by
  unfold y_waits at h
  have h1 : ∀ p, p < 40 → T.ow o p = false := by
    intro p hp
    have := sN_le (f := fun p => bN (T.ow o p)) hp
    cases e : T.ow o p
    · rfl
    · have h2 : bN (T.ow o p) = 1 := by rw [e]; rfl
      simp only [h2] at this
      omega
  have h2 : ∀ c, c < 12 → T.par c = some o → (T.wt c).length = 0 := by
    intro c hc hp
    have := sN_le (f := fun c => if T.par c = some o then (T.wt c).length else 0) hc
    simp only [if_pos hp] at this
    omega
  unfold y_rd
  rw [r1_0 h1 40 (Nat.le_refl _), r2_0 h2 12 (Nat.le_refl _)]
theorem all_w {o : Nat} (ho : o < 12) : ∀ (k : Nat) (T : CT), JI T → y_waits T o ≤ k → y_all o (k + 1) T = y_all o k T
  | 0, T, _, h => by
    have e := rd_0 (T := T) (o := o) (by omega)
    simp only [y_all, e]
    simp
  | k + 1, T, hI, h => by
    obtain ⟨j1, j2, -⟩ := rd_J hI ho
    cases e : (y_rd T o).2
    · simp [y_all, e]
    · have h4 : bN (y_rd T o).2 = 1 := by rw [e]; rfl
      have ih := all_w ho k (y_rd T o).1 j1 (by omega)
      rw [show y_all o (k + 1 + 1) T = y_all o (k + 1) (y_rd T o).1 by rw [y_all, if_pos e], ih, show y_all o (k + 1) T = y_all o k (y_rd T o).1 by rw [y_all, if_pos e]]
theorem try_w {o : Nat} (ho : o < 12) {T : CT} (hI : JI T) : y_all o (y_waits T o) T = y_try T o := (all_w ho _ T hI (Nat.le_refl _)).symm
theorem wh_fr {o c : Nat} : ∀ (k : Nat) (T : CT) (m : Bool), (y_wh o c k T m).1.there = T.there ∧ (y_wh o c k T m).1.last = T.last
  | 0, T, m => ⟨rfl, rfl⟩
  | k + 1, T, m => by
    cases hf : y_first T o c with
    | none => simp [y_wh, hf]
    | some T' =>
      simp only [y_wh, hf]
      have := wh_fr (o := o) (c := c) k T' true
      exact ⟨this.1.trans (y_first_there hf), this.2.trans (y_first_last hf)⟩
theorem r2_fr {R : CT × Bool} {o : Nat} : ∀ i, (y_r2 R o i).1.there = R.1.there ∧ (y_r2 R o i).1.last = R.1.last
  | 0 => ⟨rfl, rfl⟩
  | i + 1 => by
    have ih := r2_fr (R := R) (o := o) i
    simp only [y_r2]
    by_cases c : (y_r2 R o i).1.par i = some o
    · rw [if_pos c]
      have := wh_fr (o := o) (c := i) ((y_r2 R o i).1.wt i).length (y_r2 R o i).1 (y_r2 R o i).2
      exact ⟨this.1.trans ih.1, this.2.trans ih.2⟩
    · rw [if_neg c]
      exact ih
theorem TL.of {T T' : CT} (h : TL T) (e1 : T'.there = T.there) (e2 : T'.last = T.last) : TL T' := by
  unfold TL
  rw [e1, e2]
  exact h
theorem TL.rd {T : CT} {o : Nat} (h : TL T) : TL (y_rd T o).1 := h.of ((r2_fr 12).1.trans (r1_fr 40).1) ((r2_fr 12).2.trans (r1_fr 40).2)
theorem TL.all {o : Nat} : ∀ (k : Nat) {T : CT}, TL T → TL (y_all o k T)
  | 0, _, h => h
  | k + 1, T, h => by
    simp only [y_all]
    split
    · exact TL.all k h.rd
    · exact h.rd
theorem sN_bd {f : Nat → Nat} {m : Nat} : ∀ {n : Nat}, (∀ i, i < n → f i ≤ m) → sN n f ≤ n * m
  | 0, _ => Nat.zero_le _
  | n + 1, h => by
    have h1 := sN_bd (n := n) (fun i hi => h i (by omega))
    have h2 := h n (by omega)
    show sN n f + f n ≤ _
    rw [Nat.succ_mul]
    omega
theorem waits_lt {T : CT} (hB : Bd T) {o : Nat} : y_waits T o < 2 ^ 30 := by
  have h1 := sN_bd (f := fun p => bN (T.ow o p)) (n := 40) (m := 1) (fun i _ => by cases T.ow o i <;> decide)
  have h2 := sN_bd (f := fun c => if T.par c = some o then (T.wt c).length else 0) (n := 12) (m := 2000) (fun i hi => by
    show (if T.par i = some o then (T.wt i).length else 0) ≤ 2000
    split
    · exact hB.wtN i hi
    · omega)
  unfold y_waits
  omega
theorem h_tryW {l : Launch} {D : gzD} {K : gzK} {M : gzM} {n nc ns : Nat} {M0 : gzM} {b : Nat} {v : gV} {g : gG} {T : CT} (hC : RC M0 (b + 2) v g T M n nc ns)(hD : RM D) (hb : b + 10 ≤ 300000) {o : Nat} (ho : o < 12) (hI : JI T) (hTL : TL T) (k : ∀ g M n nc ns, RC M0 (b + 2) v g (y_try T o) M n nc ns → K (.inl none) M n nc ns) : GZ l P1 D F_H_tryWaiting K 0 [some (.ref 3), some (.ref (11 + 6 * o)), none, none, none] [] M n nc ns := by
  refine gz_iconst (v := 1) gd_H_tryWaiting_0 (by decide) ?_
  refine gz_istore_n gd_H_tryWaiting_1 rfl (Nat.le_of_ble_eq_true rfl) rfl ?_
  refine gz_aload_n gd_H_tryWaiting_2 rfl rfl (gz_isr.r _) ?_
  refine gz_aload_n gd_H_tryWaiting_3 rfl rfl (gz_isr.r _) ?_
  refine gz_virtual1 gd_H_tryWaiting_4 hC.1.house rfl rfl gs_H_tryWaiting_4 (Nat.le_of_ble_eq_true rfl) (Nat.le_of_ble_eq_true rfl) ?_
  refine h_waits hC hI.1 (by omega) ?_
  refine gz_istore_n gd_H_tryWaiting_7 rfl (Nat.le_of_ble_eq_true rfl) rfl ?_
  have loop : ∀ (q : Nat) (G : CT) (go : Bool) (y4 : Option Value) g M n nc ns, q < 2 ^ 30 → JI G → TL G → RC M0 (b + 2) v g G M n nc ns → (∀ g M n nc ns, RC M0 (b + 2) v g (if go = true then y_all o q G else G) M n nc ns → K (.inl none) M n nc ns) → GZ l P1 D F_H_tryWaiting K 8 [some (.ref 3), some (.ref (11 + 6 * o)), some (.int (bI go)), some (.int (nI q)), y4] [] M n nc ns := by
    intro q
    induction q with
    | zero =>
      intro G go y4 g M n nc ns hq hI hTL hC k
      refine gz_iload_n gd_H_tryWaiting_8 rfl rfl ?_
      refine gz_if_eq (tgt := 78) gd_H_tryWaiting_9 (by decide) (fun h9 => ?_) (fun h9 => ?_)
      ·
        replace h9 := bI_0.1 h9
        refine gz_return gd_H_tryWaiting_78 rfl ?_
        rw [if_neg (by rw [h9]; exact Bool.false_ne_true)] at k
        exact k _ _ _ _ _ hC
      ·
        replace h9 := bI_n.1 h9
        refine gz_iload_n gd_H_tryWaiting_12 rfl rfl ?_
        refine gz_if_le (tgt := 78) gd_H_tryWaiting_13 (by decide) (fun h13 => ?_) (fun h13 => ?_)
        ·
          replace h13 := (nI_le0 (by omega)).1 h13
          refine gz_return gd_H_tryWaiting_78 rfl ?_
          rw [if_pos h9] at k
          exact k _ _ _ _ _ hC
        ·
          replace h13 := mt (nI_le0 (by omega)).2 h13
          omega
    | succ q ih =>
      intro G go y4 g M n nc ns hq hI hTL hC k
      refine gz_iload_n gd_H_tryWaiting_8 rfl rfl ?_
      refine gz_if_eq (tgt := 78) gd_H_tryWaiting_9 (by decide) (fun h9 => ?_) (fun h9 => ?_)
      ·
        replace h9 := bI_0.1 h9
        refine gz_return gd_H_tryWaiting_78 rfl ?_
        rw [if_neg (by rw [h9]; exact Bool.false_ne_true)] at k
        exact k _ _ _ _ _ hC
      ·
        replace h9 := bI_n.1 h9
        refine gz_iload_n gd_H_tryWaiting_12 rfl rfl ?_
        refine gz_if_le (tgt := 78) gd_H_tryWaiting_13 (by decide) (fun h13 => ?_) (fun h13 => ?_)
        ·
          replace h13 := (nI_le0 (by omega)).1 h13
          omega
        ·
          replace h13 := mt (nI_le0 (by omega)).2 h13
          refine gz_aload_n gd_H_tryWaiting_16 rfl rfl (gz_isr.r _) ?_
          refine gz_aload_n gd_H_tryWaiting_17 rfl rfl (gz_isr.r _) ?_
          refine gz_virtual1 gd_H_tryWaiting_18 hC.1.house rfl rfl gs_H_tryWaiting_18 (Nat.le_of_ble_eq_true rfl) (Nat.le_of_ble_eq_true rfl) ?_
          refine h_tryOwn hC hD (by omega) ho hI hTL (fun g M n nc ns hC => ?_)
          refine gz_istore_n gd_H_tryWaiting_21 rfl (Nat.le_of_ble_eq_true rfl) rfl ?_
          refine gz_iconst (v := 0) gd_H_tryWaiting_22 (by decide) ?_
          refine gz_istore gd_H_tryWaiting_23 (Nat.le_of_ble_eq_true rfl) rfl ?_
          have loop2 : ∀ (j i : Nat), i + j = 12 → ∀ g M n nc ns, RC M0 (b + 2) v g (y_r2 (y_r1 G o 40) o i).1 M n nc ns → GZ l P1 D F_H_tryWaiting K 25 [some (.ref 3), some (.ref (11 + 6 * o)), some (.int (bI (y_r2 (y_r1 G o 40) o i).2)), some (.int (nI (q + 1))), some (.int (nI i))] [] M n nc ns := by
            intro j
            induction j with
            | zero =>
              intro i hi g M n nc ns hC
              have hG := (r2_J (o := o) (r1_J (o := o) hI ho 40 (Nat.le_refl _)).1 ho i (by omega)).1
              have hB := hG.1
              refine gz_iload gd_H_tryWaiting_25 rfl ?_
              refine gz_bipush (v := 12) gd_H_tryWaiting_27 (by decide) ?_
              refine gz_icmp_ge (tgt := 72) gd_H_tryWaiting_29 (by decide) (fun h29 => ?_) (fun h29 => ?_)
              ·
                replace h29 := (nI_leI (a := 12) (b := i) (by omega) (by omega)).1 h29
                refine gz_iinc (v := nI q) gd_H_tryWaiting_72 rfl (pk_m1 q) (Nat.le_of_ble_eq_true rfl) rfl ?_
                refine gz_goto (tgt := 8) gd_H_tryWaiting_75 (by decide) ?_
                obtain rfl : i = 12 := by omega
                have e : y_all o (q + 1) G = if (y_rd G o).2 = true then y_all o q (y_rd G o).1 else (y_rd G o).1 := rfl
                rw [if_pos h9, e] at k
                exact ih (y_rd G o).1 (y_rd G o).2 _ _ _ _ _ _ (by omega) (rd_J hI ho).1 hTL.rd hC k
              ·
                replace h29 := mt (nI_leI (a := 12) (b := i) (by omega) (by omega)).2 h29
                omega
            | succ j ih2 =>
              intro i hi g M n nc ns hC
              have hG := (r2_J (o := o) (r1_J (o := o) hI ho 40 (Nat.le_refl _)).1 ho i (by omega)).1
              have hB := hG.1
              refine gz_iload gd_H_tryWaiting_25 rfl ?_
              refine gz_bipush (v := 12) gd_H_tryWaiting_27 (by decide) ?_
              refine gz_icmp_ge (tgt := 72) gd_H_tryWaiting_29 (by decide) (fun h29 => ?_) (fun h29 => ?_)
              ·
                replace h29 := (nI_leI (a := 12) (b := i) (by omega) (by omega)).1 h29
                omega
              ·
                replace h29 := mt (nI_leI (a := 12) (b := i) (by omega) (by omega)).2 h29
                refine gz_aload_n gd_H_tryWaiting_32 rfl rfl (gz_isr.r _) ?_
                refine gq_getf (y := .ref (5)) gd_H_tryWaiting_33 gf_H_17 hC.1.house rfl rfl ?_
                refine gz_iload gd_H_tryWaiting_36 rfl ?_
                refine rc_offs (o := i) gd_H_tryWaiting_38 hC (by omega) ?_
                refine gq_getf (y := .int (oI (((y_r2 (y_r1 G o 40) o i).1).par i))) gd_H_tryWaiting_39 gf_H_138 (hC.1.off i (by omega)) rfl rfl ?_
                refine gz_aload_n gd_H_tryWaiting_42 rfl rfl (gz_isr.r _) ?_
                refine gq_getf (y := .int (nI o)) gd_H_tryWaiting_43 gf_H_318 (hC.1.off o (by omega)) rfl rfl ?_
                refine gz_icmp_ne (tgt := 66) gd_H_tryWaiting_46 (by decide) (fun h46 => ?_) (fun h46 => ?_)
                ·
                  replace h46 := mt (oI_eq (o := o) (fun j hj => hB.par _ _ (by omega) hj) (by omega)).2 h46
                  refine gz_iinc (v := nI (i + 1)) gd_H_tryWaiting_66 rfl (nI_1 i) (Nat.le_of_ble_eq_true rfl) rfl ?_
                  refine gz_goto (tgt := 25) gd_H_tryWaiting_69 (by decide) ?_
                  have e : y_r2 (y_r1 G o 40) o (i + 1) = (y_r2 (y_r1 G o 40) o i) := if_neg h46
                  rw [← e]
                  rw [← e] at hC
                  exact ih2 (i + 1) (by omega) _ _ _ _ _ hC
                ·
                  replace h46 := (oI_eq (o := o) (fun j hj => hB.par _ _ (by omega) hj) (by omega)).1 h46
                  refine gz_aload_n gd_H_tryWaiting_49 rfl rfl (gz_isr.r _) ?_
                  refine gz_aload_n gd_H_tryWaiting_50 rfl rfl (gz_isr.r _) ?_
                  refine gz_aload_n gd_H_tryWaiting_51 rfl rfl (gz_isr.r _) ?_
                  refine gq_getf (y := .ref (5)) gd_H_tryWaiting_52 gf_H_17 hC.1.house rfl rfl ?_
                  refine gz_iload gd_H_tryWaiting_55 rfl ?_
                  refine rc_offs (o := i) gd_H_tryWaiting_57 hC (by omega) ?_
                  refine gz_virtual2 gd_H_tryWaiting_58 hC.1.house rfl rfl gs_H_tryWaiting_58 (Nat.le_of_ble_eq_true rfl) (Nat.le_of_ble_eq_true rfl) ?_
                  refine h_tryChild hC hD (by omega) ho (by omega) hG (fun g M n nc ns hC => ?_)
                  refine gz_if_eq (tgt := 66) gd_H_tryWaiting_61 (by decide) (fun h61 => ?_) (fun h61 => ?_)
                  ·
                    replace h61 := bI_0.1 h61
                    refine gz_iinc (v := nI (i + 1)) gd_H_tryWaiting_66 rfl (nI_1 i) (Nat.le_of_ble_eq_true rfl) rfl ?_
                    refine gz_goto (tgt := 25) gd_H_tryWaiting_69 (by decide) ?_
                    have e : y_r2 (y_r1 G o 40) o (i + 1) = _ := (if_pos h46).trans (wh_m _ _ _)
                    have e1 : (y_r2 (y_r1 G o 40) o (i + 1)).1 = (y_wh o i ((y_r2 (y_r1 G o 40) o i).1.wt i).length (y_r2 (y_r1 G o 40) o i).1 false).1 := by rw [e]
                    have e2 : (y_r2 (y_r1 G o 40) o (i + 1)).2 = (y_r2 (y_r1 G o 40) o i).2 := by rw [e, h61]; exact Bool.or_false _
                    rw [← e2]
                    rw [← e1] at hC
                    exact ih2 (i + 1) (by omega) _ _ _ _ _ hC
                  ·
                    replace h61 := bI_n.1 h61
                    refine gz_iconst (v := 1) gd_H_tryWaiting_64 (by decide) ?_
                    refine gz_istore_n gd_H_tryWaiting_65 rfl (Nat.le_of_ble_eq_true rfl) rfl ?_
                    refine gz_iinc (v := nI (i + 1)) gd_H_tryWaiting_66 rfl (nI_1 i) (Nat.le_of_ble_eq_true rfl) rfl ?_
                    refine gz_goto (tgt := 25) gd_H_tryWaiting_69 (by decide) ?_
                    have e : y_r2 (y_r1 G o 40) o (i + 1) = _ := (if_pos h46).trans (wh_m _ _ _)
                    have e1 : (y_r2 (y_r1 G o 40) o (i + 1)).1 = (y_wh o i ((y_r2 (y_r1 G o 40) o i).1.wt i).length (y_r2 (y_r1 G o 40) o i).1 false).1 := by rw [e]
                    have e2 : (y_r2 (y_r1 G o 40) o (i + 1)).2 = true := by rw [e, h61]; exact Bool.or_true _
                    rw [show (Value.int 1) = Value.int (bI (y_r2 (y_r1 G o 40) o (i + 1)).2) by rw [e2]; rfl]
                    rw [← e1] at hC
                    exact ih2 (i + 1) (by omega) _ _ _ _ _ hC
          exact loop2 12 0 (by omega) _ _ _ _ _ hC
  have hwl : y_waits T o < 2 ^ 30 := waits_lt hI.1 (o := o)
  exact loop _ T true none g M n nc ns hwl hI hTL hC (fun g M n nc ns hC => k _ _ _ _ _ (by rw [if_pos rfl, try_w ho hI] at hC; exact hC))

