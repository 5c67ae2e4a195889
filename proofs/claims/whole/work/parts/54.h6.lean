/-! The class: its face, views. Printed by wip/whole/h6.py -/
theorem h_ssum {l : Launch} {D : gzD} {K : gzK} {M : gzM} {n nc ns : Nat} {M0 : gzM} {b : Nat} {v : gV} {g : gG} {T : CT} (hC : RC M0 b v g T M n nc ns) (hB : Bd T) {o q : Nat} (ho : o < 12) (hq : q < 6) (k : K (.inl (some (.long (y_sum T o none q 40)))) M n nc ns) : GZ l P1 D F_O_shownSum K 0 [some (.ref (11 + 6 * o)), some (.int (nI q)), none, none, none, none] [] M n nc ns := by
  refine gz_lconst (v := 0) gd_O_shownSum_0 (by decide) ?_
  refine gz_lstore_n gd_O_shownSum_1 rfl (Nat.le_of_ble_eq_true rfl) rfl ?_
  refine gz_iconst (v := 0) gd_O_shownSum_2 (by decide) ?_
  refine gz_istore gd_O_shownSum_3 (Nat.le_of_ble_eq_true rfl) trivial ?_
  have loop : ∀ (j i : Nat), i + j = 40 → ∀ (y5 : Option Value), GZ l P1 D F_O_shownSum K 5 [some (.ref (11 + 6 * o)), some (.int (nI q)), some (.long (y_sum T o none q i)), none, some (.int (nI i)), y5] [] M n nc ns := by
    intro j
    induction j with
    | zero =>
      intro i hi y5
      have hsh := fun (hz : i < 40) => hB.shown o i ho hz
      refine gz_iload gd_O_shownSum_5 rfl ?_
      refine gz_bipush (v := 40) gd_O_shownSum_7 (by decide) ?_
      refine gz_icmp_ge (tgt := 43) gd_O_shownSum_9 (by decide) (fun h9 => ?_) (fun h9 => ?_)
      ·
        replace h9 := (nI_leI (a := 40) (b := i) (by omega) (by omega)).1 h9
        refine gz_lload_n gd_O_shownSum_43 rfl rfl ?_
        refine gz_lreturn gd_O_shownSum_44 rfl ?_
        have e40 : i = 40 := by omega
        rw [e40]
        exact k
      ·
        replace h9 := mt (nI_leI (a := 40) (b := i) (by omega) (by omega)).2 h9
        omega
    | succ j ih =>
      intro i hi y5
      have hsh := fun (hz : i < 40) => hB.shown o i ho hz
      refine gz_iload gd_O_shownSum_5 rfl ?_
      refine gz_bipush (v := 40) gd_O_shownSum_7 (by decide) ?_
      refine gz_icmp_ge (tgt := 43) gd_O_shownSum_9 (by decide) (fun h9 => ?_) (fun h9 => ?_)
      ·
        replace h9 := (nI_leI (a := 40) (b := i) (by omega) (by omega)).1 h9
        omega
      ·
        replace h9 := mt (nI_leI (a := 40) (b := i) (by omega) (by omega)).2 h9
        refine gz_aload_n gd_O_shownSum_12 rfl rfl (gz_isr.r _) ?_
        refine gq_getf (y := .ref (12 + 6 * o)) gd_O_shownSum_13 gf_O_11 (hC.1.off o (by omega)) rfl rfl ?_
        refine gz_iload gd_O_shownSum_16 rfl ?_
        refine rc_shown (o := o) (p := i) gd_O_shownSum_18 hC (by omega) (by omega) ?_
        refine gz_astore gd_O_shownSum_19 (Nat.le_of_ble_eq_true rfl) rfl (vref_isr _ _) ?_
        refine gz_aload gd_O_shownSum_21 rfl (vref_isr _ _) ?_
        refine rc_nullV (tgt := 37) gd_O_shownSum_23 (by decide) (fun h23 => ?_) (fun h23 => ?_)
        ·
          try rw [vref_0 h23]
          refine gz_iinc (v := nI (i + 1)) gd_O_shownSum_37 rfl (nI_1 i) (Nat.le_of_ble_eq_true rfl) trivial ?_
          refine gz_goto (tgt := 5) gd_O_shownSum_40 (by decide) ?_
          rw [show y_sum T o none q i = y_sum T o none q (i + 1) from (if_neg (by simp [y_cnt, h23])).symm]
          exact ih (i + 1) (by omega) _
        ·
          try rw [vref_s h23]
          have hsv := hsh (by omega)
          refine gz_lload_n gd_O_shownSum_26 rfl rfl ?_
          refine gz_aload gd_O_shownSum_27 rfl (gz_isr.r _) ?_
          refine gq_getf (y := .ref (v.wid (T.shown o i))) gd_O_shownSum_29 gf_O_58 (hC.2.1.ver (T.shown o i) (by omega) (by omega)).1 rfl rfl ?_
          refine gz_iload_n gd_O_shownSum_32 rfl rfl ?_
          refine rc_vote (w := T.shown o i) (i := q) gd_O_shownSum_33 hC (by omega) (by omega) (by omega) ?_
          refine gz_i2l gd_O_shownSum_34 ?_
          refine gz_ladd gd_O_shownSum_35 ?_
          refine gz_lstore_n gd_O_shownSum_36 rfl (Nat.le_of_ble_eq_true rfl) rfl ?_
          refine gz_iinc (v := nI (i + 1)) gd_O_shownSum_37 rfl (nI_1 i) (Nat.le_of_ble_eq_true rfl) trivial ?_
          refine gz_goto (tgt := 5) gd_O_shownSum_40 (by decide) ?_
          rw [show y_sum T o none q i + (T.vote (T.shown o i) q).toInt64 = y_sum T o none q (i + 1) from (if_pos (by simp [y_cnt, h23])).symm]
          exact ih (i + 1) (by omega) _
  exact loop 40 0 (by omega) none

theorem h_sthr {l : Launch} {D : gzD} {K : gzK} {M : gzM} {n nc ns : Nat} {M0 : gzM} {b : Nat} {v : gV} {g : gG} {T : CT} (hC : RC M0 b v g T M n nc ns) (hB : Bd T) {o c q : Nat} (ho : o < 12) (hc : c < 12) (hq : q < 6) (k : K (.inl (some (.long (y_sum T o (some c) q 40)))) M n nc ns) : GZ l P1 D F_O_sumThrough K 0 [some (.ref (11 + 6 * o)), some (.int (nI c)), some (.int (nI q)), none, none, none, none] [] M n nc ns := by
  refine gz_lconst (v := 0) gd_O_sumThrough_0 (by decide) ?_
  refine gz_lstore_n gd_O_sumThrough_1 rfl (Nat.le_of_ble_eq_true rfl) rfl ?_
  refine gz_iconst (v := 0) gd_O_sumThrough_2 (by decide) ?_
  refine gz_istore gd_O_sumThrough_3 (Nat.le_of_ble_eq_true rfl) trivial ?_
  have loop : ∀ (j i : Nat), i + j = 40 → ∀ (y6 : Option Value), GZ l P1 D F_O_sumThrough K 5 [some (.ref (11 + 6 * o)), some (.int (nI c)), some (.int (nI q)), some (.long (y_sum T o (some c) q i)), none, some (.int (nI i)), y6] [] M n nc ns := by
    intro j
    induction j with
    | zero =>
      intro i hi y6
      have hsh := fun (hz : i < 40) => hB.shown o i ho hz
      refine gz_iload gd_O_sumThrough_5 rfl ?_
      refine gz_bipush (v := 40) gd_O_sumThrough_7 (by decide) ?_
      refine gz_icmp_ge (tgt := 54) gd_O_sumThrough_9 (by decide) (fun h9 => ?_) (fun h9 => ?_)
      ·
        replace h9 := (nI_leI (a := 40) (b := i) (by omega) (by omega)).1 h9
        refine gz_lload_n gd_O_sumThrough_54 rfl rfl ?_
        refine gz_lreturn gd_O_sumThrough_55 rfl ?_
        have e40 : i = 40 := by omega
        rw [e40]
        exact k
      ·
        replace h9 := mt (nI_leI (a := 40) (b := i) (by omega) (by omega)).2 h9
        omega
    | succ j ih =>
      intro i hi y6
      have hsh := fun (hz : i < 40) => hB.shown o i ho hz
      refine gz_iload gd_O_sumThrough_5 rfl ?_
      refine gz_bipush (v := 40) gd_O_sumThrough_7 (by decide) ?_
      refine gz_icmp_ge (tgt := 54) gd_O_sumThrough_9 (by decide) (fun h9 => ?_) (fun h9 => ?_)
      ·
        replace h9 := (nI_leI (a := 40) (b := i) (by omega) (by omega)).1 h9
        omega
      ·
        replace h9 := mt (nI_leI (a := 40) (b := i) (by omega) (by omega)).2 h9
        refine gz_aload_n gd_O_sumThrough_12 rfl rfl (gz_isr.r _) ?_
        refine gq_getf (y := .ref (12 + 6 * o)) gd_O_sumThrough_13 gf_O_11 (hC.1.off o (by omega)) rfl rfl ?_
        refine gz_iload gd_O_sumThrough_16 rfl ?_
        refine rc_shown (o := o) (p := i) gd_O_sumThrough_18 hC (by omega) (by omega) ?_
        refine gz_astore gd_O_sumThrough_19 (Nat.le_of_ble_eq_true rfl) rfl (vref_isr _ _) ?_
        refine gz_aload gd_O_sumThrough_21 rfl (vref_isr _ _) ?_
        refine rc_nullV (tgt := 48) gd_O_sumThrough_23 (by decide) (fun h23 => ?_) (fun h23 => ?_)
        ·
          try rw [vref_0 h23]
          refine gz_iinc (v := nI (i + 1)) gd_O_sumThrough_48 rfl (nI_1 i) (Nat.le_of_ble_eq_true rfl) trivial ?_
          refine gz_goto (tgt := 5) gd_O_sumThrough_51 (by decide) ?_
          rw [show y_sum T o (some c) q i = y_sum T o (some c) q (i + 1) from (if_neg (by simp [y_cnt, h23])).symm]
          exact ih (i + 1) (by omega) _
        ·
          try rw [vref_s h23]
          refine gz_aload_n gd_O_sumThrough_26 rfl rfl (gz_isr.r _) ?_
          refine gq_getf (y := .ref (13 + 6 * o)) gd_O_sumThrough_27 gf_O_17 (hC.1.off o (by omega)) rfl rfl ?_
          refine gz_iload gd_O_sumThrough_30 rfl ?_
          refine rc_src (o := o) (p := i) gd_O_sumThrough_32 hC (by omega) (by omega) ?_
          refine gz_iload_n gd_O_sumThrough_33 rfl rfl ?_
          refine gz_icmp_ne (tgt := 48) gd_O_sumThrough_34 (by decide) (fun h34 => ?_) (fun h34 => ?_)
          ·
            replace h34 := mt (oI_eq (o := c) (fun z hz => hB.src o i z ho (by omega) hz) (by omega)).2 h34
            refine gz_iinc (v := nI (i + 1)) gd_O_sumThrough_48 rfl (nI_1 i) (Nat.le_of_ble_eq_true rfl) trivial ?_
            refine gz_goto (tgt := 5) gd_O_sumThrough_51 (by decide) ?_
            rw [show y_sum T o (some c) q i = y_sum T o (some c) q (i + 1) from (if_neg (by simp [y_cnt, h34])).symm]
            exact ih (i + 1) (by omega) _
          ·
            replace h34 := (oI_eq (o := c) (fun z hz => hB.src o i z ho (by omega) hz) (by omega)).1 h34
            have hsv := hsh (by omega)
            refine gz_lload_n gd_O_sumThrough_37 rfl rfl ?_
            refine gz_aload gd_O_sumThrough_38 rfl (gz_isr.r _) ?_
            refine gq_getf (y := .ref (v.wid (T.shown o i))) gd_O_sumThrough_40 gf_O_58 (hC.2.1.ver (T.shown o i) (by omega) (by omega)).1 rfl rfl ?_
            refine gz_iload_n gd_O_sumThrough_43 rfl rfl ?_
            refine rc_vote (w := T.shown o i) (i := q) gd_O_sumThrough_44 hC (by omega) (by omega) (by omega) ?_
            refine gz_i2l gd_O_sumThrough_45 ?_
            refine gz_ladd gd_O_sumThrough_46 ?_
            refine gz_lstore_n gd_O_sumThrough_47 rfl (Nat.le_of_ble_eq_true rfl) rfl ?_
            refine gz_iinc (v := nI (i + 1)) gd_O_sumThrough_48 rfl (nI_1 i) (Nat.le_of_ble_eq_true rfl) trivial ?_
            refine gz_goto (tgt := 5) gd_O_sumThrough_51 (by decide) ?_
            rw [show y_sum T o (some c) q i + (T.vote (T.shown o i) q).toInt64 = y_sum T o (some c) q (i + 1) from (if_pos (by simp [y_cnt, h23, h34])).symm]
            exact ih (i + 1) (by omega) _
  exact loop 40 0 (by omega) none

theorem h_sum {l : Launch} {D : gzD} {K : gzK} {M : gzM} {n nc ns : Nat} {M0 : gzM} {b : Nat} {v : gV} {g : gG} {T : CT} (hC : RC M0 b v g T M n nc ns)(hD : RM D) (hb : b + 1000 ≤ 300000) (hls : l.stackTraces = false) {xo xq : Int32} (hB : Bd T) (k : ∀ v g M n nc ns, RC M0 (b + 560) v g ((z_sum T xo xq).2) M n nc ns → ((z_sum T xo xq).2).code = 0 → K (.inl (some (.long (z_sum T xo xq).1))) M n nc ns) (kx : ∀ e ci g M n nc ns, RC M0 (b + 560) v g ((z_sum T xo xq).2) M n nc ns → M e = some (.inr (ci, [])) → (((z_sum T xo xq).2).code, ci) ∈ ([(1, 8)] : List (Int32 × Nat)) → K (.inr e) M n nc ns) : GZ l P1 D F_H_sum K 0 [some (.ref 3), some (.int xo), some (.int xq)] [] M n nc ns := by
  replace hC := hC.code 0
  refine gz_iload_n gd_H_sum_0 rfl rfl ?_
  refine gz_static1 gd_H_sum_1 gs_H_sum_1 (Nat.le_of_ble_eq_true rfl) (Nat.le_of_ble_eq_true rfl) ?_
  refine h_reqOffice hC hD (by omega) hls (fun o ho e0 => ?_) (fun eo ex M1 n1 nc1 ns1 hC hx => GT.out rfl ?_)
  ·
    subst e0
    have eo := inR_s ho (show 12 < 2 ^ 31 by decide)
    refine gz_iload_n gd_H_sum_4 rfl rfl ?_
    refine gz_static1 gd_H_sum_5 gs_H_sum_5 (Nat.le_of_ble_eq_true rfl) (Nat.le_of_ble_eq_true rfl) ?_
    refine h_reqOption hC hD (by omega) hls (fun q hq e0 => ?_) (fun eq ex M1 n1 nc1 ns1 hC hx => GT.out rfl ?_)
    ·
      subst e0
      have eq := inR_s hq (show 6 < 2 ^ 31 by decide)
      refine gz_aload_n gd_H_sum_8 rfl rfl (gz_isr.r _) ?_
      refine gq_getf (y := .ref (5)) gd_H_sum_9 gf_H_17 hC.1.house rfl rfl ?_
      refine gz_iload_n gd_H_sum_12 rfl rfl ?_
      refine rc_offs (o := o) gd_H_sum_13 hC (by omega) ?_
      refine gz_iload_n gd_H_sum_14 rfl rfl ?_
      refine gz_virtual1 gd_H_sum_15 (hC.1.off o (by omega)) rfl rfl gs_H_sum_15 (Nat.le_of_ble_eq_true rfl) (Nat.le_of_ble_eq_true rfl) ?_
      refine h_ssum hC hB.w_code ho hq ?_
      refine gz_lreturn gd_H_sum_18 rfl ?_
      simp only [z_sum, eo, eq] at k
      exact k _ _ _ _ _ _ (hC.le (by omega)) rfl
    ·
      simp only [z_sum, eo, eq] at kx
      exact kx _ _ _ _ _ _ _ ((hC.le (by omega)).recode 1) hx (by show ((1 : Int32), _) ∈ _; decide)
  ·
    simp only [z_sum, eo] at kx
    exact kx _ _ _ _ _ _ _ ((hC.le (by omega)).recode 1) hx (by show ((1 : Int32), _) ∈ _; decide)

theorem h_held {l : Launch} {D : gzD} {K : gzK} {M : gzM} {n nc ns : Nat} {M0 : gzM} {b : Nat} {v : gV} {g : gG} {T : CT} (hC : RC M0 b v g T M n nc ns)(hD : RM D) (hb : b + 1000 ≤ 300000) (hls : l.stackTraces = false) {xo xu xq : Int32} (hB : Bd T) (k : ∀ v g M n nc ns, RC M0 (b + 560) v g ((z_held T xo xu xq).2) M n nc ns → ((z_held T xo xu xq).2).code = 0 → K (.inl (some (.long (z_held T xo xu xq).1))) M n nc ns) (kx : ∀ e ci g M n nc ns, RC M0 (b + 560) v g ((z_held T xo xu xq).2) M n nc ns → M e = some (.inr (ci, [])) → (((z_held T xo xu xq).2).code, ci) ∈ ([(1, 8)] : List (Int32 × Nat)) → K (.inr e) M n nc ns) : GZ l P1 D F_H_held K 0 [some (.ref 3), some (.int xo), some (.int xu), some (.int xq)] [] M n nc ns := by
  replace hC := hC.code 0
  refine gz_iload_n gd_H_held_0 rfl rfl ?_
  refine gz_static1 gd_H_held_1 gs_H_held_1 (Nat.le_of_ble_eq_true rfl) (Nat.le_of_ble_eq_true rfl) ?_
  refine h_reqOffice hC hD (by omega) hls (fun o ho e0 => ?_) (fun eo ex M1 n1 nc1 ns1 hC hx => GT.out rfl ?_)
  ·
    subst e0
    have eo := inR_s ho (show 12 < 2 ^ 31 by decide)
    refine gz_iload_n gd_H_held_4 rfl rfl ?_
    refine gz_static1 gd_H_held_5 gs_H_held_5 (Nat.le_of_ble_eq_true rfl) (Nat.le_of_ble_eq_true rfl) ?_
    refine h_reqOffice hC hD (by omega) hls (fun u hu e0 => ?_) (fun eu ex M1 n1 nc1 ns1 hC hx => GT.out rfl ?_)
    ·
      subst e0
      have eu := inR_s hu (show 12 < 2 ^ 31 by decide)
      refine gz_iload_n gd_H_held_8 rfl rfl ?_
      refine gz_static1 gd_H_held_9 gs_H_held_9 (Nat.le_of_ble_eq_true rfl) (Nat.le_of_ble_eq_true rfl) ?_
      refine h_reqOption hC hD (by omega) hls (fun q hq e0 => ?_) (fun eq ex M1 n1 nc1 ns1 hC hx => GT.out rfl ?_)
      ·
        subst e0
        have eq := inR_s hq (show 6 < 2 ^ 31 by decide)
        refine gz_aload_n gd_H_held_12 rfl rfl (gz_isr.r _) ?_
        refine gq_getf (y := .ref (5)) gd_H_held_13 gf_H_17 hC.1.house rfl rfl ?_
        refine gz_iload_n gd_H_held_16 rfl rfl ?_
        refine rc_offs (o := u) gd_H_held_17 hC (by omega) ?_
        refine gq_getf (y := .int (oI (T.par u))) gd_H_held_18 gf_H_138 (hC.1.off u (by omega)) rfl rfl ?_
        refine gz_iload_n gd_H_held_21 rfl rfl ?_
        refine gz_icmp_eq (tgt := 27) gd_H_held_22 (by decide) (fun h22 => ?_) (fun h22 => ?_)
        ·
          replace h22 := (oI_eq (o := o) (fun j hj => hB.par _ _ (by omega) hj) (by omega)).1 h22
          refine gz_aload_n gd_H_held_27 rfl rfl (gz_isr.r _) ?_
          refine gq_getf (y := .ref (5)) gd_H_held_28 gf_H_17 hC.1.house rfl rfl ?_
          refine gz_iload_n gd_H_held_31 rfl rfl ?_
          refine rc_offs (o := o) gd_H_held_32 hC (by omega) ?_
          refine gz_iload_n gd_H_held_33 rfl rfl ?_
          refine gz_iload_n gd_H_held_34 rfl rfl ?_
          refine gz_virtual2 gd_H_held_35 (hC.1.off o (by omega)) rfl rfl gs_H_held_35 (Nat.le_of_ble_eq_true rfl) (Nat.le_of_ble_eq_true rfl) ?_
          refine h_sthr hC hB.w_code ho hu hq ?_
          refine gz_lreturn gd_H_held_38 rfl ?_
          simp only [z_held, eo, eu, eq, if_pos h22] at k
          exact k _ _ _ _ _ _ (hC.le (by omega)) rfl
        ·
          replace h22 := mt (oI_eq (o := o) (fun j hj => hB.par _ _ (by omega) hj) (by omega)).2 h22
          refine gz_lconst (v := 0) gd_H_held_25 (by decide) ?_
          refine gz_lreturn gd_H_held_26 rfl ?_
          simp only [z_held, eo, eu, eq, if_neg h22] at k
          exact k _ _ _ _ _ _ (hC.le (by omega)) rfl
      ·
        simp only [z_held, eo, eu, eq] at kx
        exact kx _ _ _ _ _ _ _ ((hC.le (by omega)).recode 1) hx (by show ((1 : Int32), _) ∈ _; decide)
    ·
      simp only [z_held, eo, eu] at kx
      exact kx _ _ _ _ _ _ _ ((hC.le (by omega)).recode 1) hx (by show ((1 : Int32), _) ∈ _; decide)
  ·
    simp only [z_held, eo] at kx
    exact kx _ _ _ _ _ _ _ ((hC.le (by omega)).recode 1) hx (by show ((1 : Int32), _) ∈ _; decide)

theorem h_marked {l : Launch} {D : gzD} {K : gzK} {M : gzM} {n nc ns : Nat} {M0 : gzM} {b : Nat} {v : gV} {g : gG} {T : CT} (hC : RC M0 b v g T M n nc ns)(hD : RM D) (hb : b + 1000 ≤ 300000) (hls : l.stackTraces = false) {xo : Int32} (hB : Bd T) (hm0 : T.mark 0 = 0) (k : ∀ v g M n nc ns, RC M0 (b + 560) v g ((z_marked T xo).2) M n nc ns → ((z_marked T xo).2).code = 0 → K (.inl (some (.int (z_marked T xo).1))) M n nc ns) (kx : ∀ e ci g M n nc ns, RC M0 (b + 560) v g ((z_marked T xo).2) M n nc ns → M e = some (.inr (ci, [])) → (((z_marked T xo).2).code, ci) ∈ ([(1, 8)] : List (Int32 × Nat)) → K (.inr e) M n nc ns) : GZ l P1 D F_H_marked K 0 [some (.ref 3), some (.int xo), none, none, none] [] M n nc ns := by
  replace hC := hC.code 0
  refine gz_iload_n gd_H_marked_0 rfl rfl ?_
  refine gz_static1 gd_H_marked_1 gs_H_marked_1 (Nat.le_of_ble_eq_true rfl) (Nat.le_of_ble_eq_true rfl) ?_
  refine h_reqOffice hC hD (by omega) hls (fun o ho e0 => ?_) (fun eo ex M1 n1 nc1 ns1 hC hx => GT.out rfl ?_)
  ·
    subst e0
    have eo := inR_s ho (show 12 < 2 ^ 31 by decide)
    refine gz_iconst (v := 0) gd_H_marked_4 (by decide) ?_
    refine gz_istore_n gd_H_marked_5 rfl (Nat.le_of_ble_eq_true rfl) rfl ?_
    refine gz_iconst (v := 0) gd_H_marked_6 (by decide) ?_
    refine gz_istore_n gd_H_marked_7 rfl (Nat.le_of_ble_eq_true rfl) rfl ?_
    have loop : ∀ (j i : Nat), i + j = 40 → ∀ (y4 : Option Value) a, a = sN i (fun p => if T.mark (T.shown o p) = 0 then 0 else 1) → GZ l P1 D F_H_marked K 8 [some (.ref 3), some (.int (nI o)), some (.int (nI a)), some (.int (nI i)), y4] [] M n nc ns := by
      intro j
      induction j with
      | zero =>
        intro i hi y4 a ha
        have hsh := fun (hz : i < 40) => hB.shown o i ho hz
        refine gz_iload_n gd_H_marked_8 rfl rfl ?_
        refine gz_bipush (v := 40) gd_H_marked_9 (by decide) ?_
        refine gz_icmp_ge (tgt := 49) gd_H_marked_11 (by decide) (fun h11 => ?_) (fun h11 => ?_)
        ·
          replace h11 := (nI_leI (a := 40) (b := i) (by omega) (by omega)).1 h11
          refine gz_iload_n gd_H_marked_49 rfl rfl ?_
          refine gz_ireturn gd_H_marked_50 rfl rfl ?_
          have e40 : i = 40 := by omega
          rw [e40] at ha
          rw [ha]
          simp only [z_marked, eo] at k
          exact k _ _ _ _ _ _ (hC.le (by omega)) rfl
        ·
          replace h11 := mt (nI_leI (a := 40) (b := i) (by omega) (by omega)).2 h11
          omega
      | succ j ih =>
        intro i hi y4 a ha
        have hsh := fun (hz : i < 40) => hB.shown o i ho hz
        refine gz_iload_n gd_H_marked_8 rfl rfl ?_
        refine gz_bipush (v := 40) gd_H_marked_9 (by decide) ?_
        refine gz_icmp_ge (tgt := 49) gd_H_marked_11 (by decide) (fun h11 => ?_) (fun h11 => ?_)
        ·
          replace h11 := (nI_leI (a := 40) (b := i) (by omega) (by omega)).1 h11
          omega
        ·
          replace h11 := mt (nI_leI (a := 40) (b := i) (by omega) (by omega)).2 h11
          refine gz_aload_n gd_H_marked_14 rfl rfl (gz_isr.r _) ?_
          refine gq_getf (y := .ref (5)) gd_H_marked_15 gf_H_17 hC.1.house rfl rfl ?_
          refine gz_iload_n gd_H_marked_18 rfl rfl ?_
          refine rc_offs (o := o) gd_H_marked_19 hC (by omega) ?_
          refine gq_getf (y := .ref (12 + 6 * o)) gd_H_marked_20 gf_H_144 (hC.1.off o (by omega)) rfl rfl ?_
          refine gz_iload_n gd_H_marked_23 rfl rfl ?_
          refine rc_shown (o := o) (p := i) gd_H_marked_24 hC (by omega) (by omega) ?_
          refine gz_astore gd_H_marked_25 (Nat.le_of_ble_eq_true rfl) rfl (vref_isr _ _) ?_
          refine gz_aload gd_H_marked_27 rfl (vref_isr _ _) ?_
          refine rc_nullV (tgt := 43) gd_H_marked_29 (by decide) (fun h29 => ?_) (fun h29 => ?_)
          ·
            try rw [vref_0 h29]
            replace h29 : T.shown o i = 0 := h29
            refine gz_iinc (v := nI (i + 1)) gd_H_marked_43 rfl (nI_1 i) (Nat.le_of_ble_eq_true rfl) rfl ?_
            refine gz_goto (tgt := 8) gd_H_marked_46 (by decide) ?_
            exact ih (i + 1) (by omega) _ _ (by rw [ha]; show _ = sN i (fun p => if T.mark (T.shown o p) = 0 then 0 else 1) + (if T.mark (T.shown o i) = 0 then 0 else 1); rw [if_pos (by rw [h29]; exact hm0)]; rfl)
          ·
            try rw [vref_s h29]
            replace h29 : ¬ T.shown o i = 0 := h29
            have hsv := hsh (by omega)
            refine gz_aload gd_H_marked_32 rfl (gz_isr.r _) ?_
            refine gq_getf (y := .int (T.mark (T.shown o i))) gd_H_marked_34 gf_H_257 (hC.2.1.ver (T.shown o i) (by omega) (show T.shown o i ≤ T.vs from hsv)).1 rfl rfl ?_
            refine gz_if_eq (tgt := 43) gd_H_marked_37 (by decide) (fun h37 => ?_) (fun h37 => ?_)
            ·
              refine gz_iinc (v := nI (i + 1)) gd_H_marked_43 rfl (nI_1 i) (Nat.le_of_ble_eq_true rfl) rfl ?_
              refine gz_goto (tgt := 8) gd_H_marked_46 (by decide) ?_
              exact ih (i + 1) (by omega) _ _ (by rw [ha]; show _ = sN i (fun p => if T.mark (T.shown o p) = 0 then 0 else 1) + (if T.mark (T.shown o i) = 0 then 0 else 1); rw [if_pos h37]; rfl)
            ·
              refine gz_iinc (v := nI (a + 1)) gd_H_marked_40 rfl (nI_1 a) (Nat.le_of_ble_eq_true rfl) rfl ?_
              refine gz_iinc (v := nI (i + 1)) gd_H_marked_43 rfl (nI_1 i) (Nat.le_of_ble_eq_true rfl) rfl ?_
              refine gz_goto (tgt := 8) gd_H_marked_46 (by decide) ?_
              exact ih (i + 1) (by omega) _ _ (by rw [ha]; show _ = sN i (fun p => if T.mark (T.shown o p) = 0 then 0 else 1) + (if T.mark (T.shown o i) = 0 then 0 else 1); rw [if_neg h37])
    exact loop 40 0 (by omega) none 0 rfl
  ·
    simp only [z_marked, eo] at kx
    exact kx _ _ _ _ _ _ _ ((hC.le (by omega)).recode 1) hx (by show ((1 : Int32), _) ∈ _; decide)

theorem tsw_hi {x : Int32} {n : Nat} (hn : n < 2 ^ 31) (h : inR x n = none) : x.toInt < 0 ∨ (n : Int) - 1 < x.toInt := by
  unfold inR at h
  by_cases z : 0 ≤ x.toInt ∧ x.toInt < n
  · rw [if_pos z] at h; cases h
  · omega
theorem inR_some {x : Int32} {n w : Nat} (h : inR x n = some w) : w < n ∧ x = nI w := by
  unfold inR at h
  by_cases z : 0 ≤ x.toInt ∧ x.toInt < n
  · rw [if_pos z] at h
    cases h
    exact ⟨by omega, (left_nI z.1).1⟩
  · rw [if_neg z] at h; cases h
theorem h_office {l : Launch} {D : gzD} {K : gzK} {M : gzM} {n nc ns : Nat} {M0 : gzM} {b : Nat} {v : gV} {g : gG} {T : CT} (hC : RC M0 b v g T M n nc ns)(hD : RM D) (hb : b + 1000 ≤ 300000) (hls : l.stackTraces = false) {xo xw : Int32} (hB : Bd T) (k : ∀ v g M n nc ns, RC M0 (b + 560) v g ((z_office T xo xw).2) M n nc ns → ((z_office T xo xw).2).code = 0 → K (.inl (some (.int (z_office T xo xw).1))) M n nc ns) (kx : ∀ e ci g M n nc ns, RC M0 (b + 560) v g ((z_office T xo xw).2) M n nc ns → M e = some (.inr (ci, [])) → (((z_office T xo xw).2).code, ci) ∈ ([(1, 8), (2, 9)] : List (Int32 × Nat)) → K (.inr e) M n nc ns) : GZ l P1 D F_H_office K 0 [some (.ref 3), some (.int xo), some (.int xw), none] [] M n nc ns := by
  replace hC := hC.code 0
  refine gz_iload_n gd_H_office_0 rfl rfl ?_
  refine gz_static1 gd_H_office_1 gs_H_office_1 (Nat.le_of_ble_eq_true rfl) (Nat.le_of_ble_eq_true rfl) ?_
  refine h_reqOffice hC hD (by omega) hls (fun o ho e0 => ?_) (fun eo ex M1 n1 nc1 ns1 hC hx => GT.out rfl ?_)
  ·
    subst e0
    have eo := inR_s ho (show 12 < 2 ^ 31 by decide)
    refine gz_aload_n gd_H_office_4 rfl rfl (gz_isr.r _) ?_
    refine gq_getf (y := .ref (5)) gd_H_office_5 gf_H_17 hC.1.house rfl rfl ?_
    refine gz_iload_n gd_H_office_8 rfl rfl ?_
    refine rc_offs (o := o) gd_H_office_9 hC (by omega) ?_
    refine gz_astore_n gd_H_office_10 rfl (Nat.le_of_ble_eq_true rfl) rfl (gz_isr.r _) ?_
    refine gz_iload_n gd_H_office_11 rfl rfl ?_
    cases ew : inR xw 8 with
    | none =>
      refine gz_tableOut (tgt := 113) gd_H_office_12 (tsw_hi (n := 8) (by decide) ew) (by decide) ?_
      have hrx := hC.room hD (by omega)
      refine gz_throwW hls gt_H_office_113 gd_H_office_113 gd_H_office_116 gd_H_office_117 gd_H_office_120 gd_H_office_123 rfl (Nat.le_of_ble_eq_true rfl) (Nat.le_of_ble_eq_true rfl) (by omega) (by omega) ?_
      simp only [z_office, eo, ew] at kx
      exact kx _ _ _ _ _ _ _ ((((hC.alloc (fun j hj => gz_up_n hj) (by decide)).1).le (by omega)).recode 2) gz_up_s (by show ((2 : Int32), _) ∈ _; decide)
    | some w =>
      obtain ⟨hw, rfl⟩ := inR_some ew
      rcases (show w = 0 ∨ w = 1 ∨ w = 2 ∨ w = 3 ∨ w = 4 ∨ w = 5 ∨ w = 6 ∨ w = 7 by omega) with rfl | rfl | rfl | rfl | rfl | rfl | rfl | rfl
      ·
        refine gz_tableIn (tgt := 60) gd_H_office_12 (by decide) (by decide) (show _ = some _ from rfl) (by decide) ?_
        refine gz_aload_n gd_H_office_60 rfl rfl (gz_isr.r _) ?_
        refine gq_getf (y := .int (oI (T.par o))) gd_H_office_61 gf_H_138 (hC.1.off o (by omega)) rfl rfl ?_
        refine gz_ireturn gd_H_office_64 rfl rfl ?_
        simp only [z_office, eo, ew] at k
        exact k _ _ _ _ _ _ (hC.le (by omega)) rfl
      ·
        refine gz_tableIn (tgt := 65) gd_H_office_12 (by decide) (by decide) (show _ = some _ from rfl) (by decide) ?_
        refine gz_aload_n gd_H_office_65 rfl rfl (gz_isr.r _) ?_
        refine gq_getf (y := .int (T.ep o)) gd_H_office_66 gf_H_141 (hC.1.off o (by omega)) rfl rfl ?_
        refine gz_ireturn gd_H_office_69 rfl rfl ?_
        simp only [z_office, eo, ew] at k
        exact k _ _ _ _ _ _ (hC.le (by omega)) rfl
      ·
        refine gz_tableIn (tgt := 70) gd_H_office_12 (by decide) (by decide) (show _ = some _ from rfl) (by decide) ?_
        refine gz_aload_n gd_H_office_70 rfl rfl (gz_isr.r _) ?_
        refine gq_getf (y := .int (bI (T.up o))) gd_H_office_71 gf_H_119 (hC.1.off o (by omega)) rfl rfl ?_
        refine gz_if_eq (tgt := 81) gd_H_office_74 (by decide) (fun h74 => ?_) (fun h74 => ?_)
        ·
          replace h74 := bI_0.1 h74
          refine gz_iconst (v := 0) gd_H_office_81 (by decide) ?_
          refine gz_ireturn gd_H_office_82 rfl rfl ?_
          simp only [z_office, eo, ew] at k
          have e2 : y_off T o 2 = 0 := by show bI (T.up o) = _; rw [h74]; rfl
          rw [e2] at k
          exact k _ _ _ _ _ _ (hC.le (by omega)) rfl
        ·
          replace h74 := bI_n.1 h74
          refine gz_iconst (v := 1) gd_H_office_77 (by decide) ?_
          refine gz_goto (tgt := 82) gd_H_office_78 (by decide) ?_
          refine gz_ireturn gd_H_office_82 rfl rfl ?_
          simp only [z_office, eo, ew] at k
          have e2 : y_off T o 2 = 1 := by show bI (T.up o) = _; rw [h74]; rfl
          rw [e2] at k
          exact k _ _ _ _ _ _ (hC.le (by omega)) rfl
      ·
        refine gz_tableIn (tgt := 83) gd_H_office_12 (by decide) (by decide) (show _ = some _ from rfl) (by decide) ?_
        refine gz_aload_n gd_H_office_83 rfl rfl (gz_isr.r _) ?_
        refine gz_iload_n gd_H_office_84 rfl rfl ?_
        refine gz_virtual1 gd_H_office_85 hC.1.house rfl rfl gs_H_office_85 (Nat.le_of_ble_eq_true rfl) (Nat.le_of_ble_eq_true rfl) ?_
        refine h_kids (T := T.w_code 0) hC hB.w_code ho ?_
        refine gz_ireturn gd_H_office_88 rfl rfl ?_
        simp only [z_office, eo, ew] at k
        exact k _ _ _ _ _ _ (hC.le (by omega)) rfl
      ·
        refine gz_tableIn (tgt := 89) gd_H_office_12 (by decide) (by decide) (show _ = some _ from rfl) (by decide) ?_
        refine gz_aload_n gd_H_office_89 rfl rfl (gz_isr.r _) ?_
        refine gz_aload_n gd_H_office_90 rfl rfl (gz_isr.r _) ?_
        refine gz_virtual1 gd_H_office_91 hC.1.house rfl rfl gs_H_office_91 (Nat.le_of_ble_eq_true rfl) (Nat.le_of_ble_eq_true rfl) ?_
        refine h_waits (T := T.w_code 0) hC hB.w_code ho ?_
        refine gz_ireturn gd_H_office_94 rfl rfl ?_
        simp only [z_office, eo, ew] at k
        exact k _ _ _ _ _ _ (hC.le (by omega)) rfl
      ·
        refine gz_tableIn (tgt := 95) gd_H_office_12 (by decide) (by decide) (show _ = some _ from rfl) (by decide) ?_
        refine gz_aload_n gd_H_office_95 rfl rfl (gz_isr.r _) ?_
        refine gq_getf (y := .ref (15 + 6 * o)) gd_H_office_96 gf_H_236 (hC.1.off o (by omega)) rfl rfl ?_
        obtain ⟨mcx, hLO⟩ := hC.1.loL o (by omega)
        refine gz_virtual0 gd_H_office_99 hLO rfl rfl gs_H_office_99 (Nat.le_of_ble_eq_true rfl) (Nat.le_of_ble_eq_true rfl) ?_
        refine rl_sizeL hC (by omega) ?_
        refine gz_ireturn gd_H_office_102 rfl rfl ?_
        simp only [z_office, eo, ew] at k
        exact k _ _ _ _ _ _ (hC.le (by omega)) rfl
      ·
        refine gz_tableIn (tgt := 103) gd_H_office_12 (by decide) (by decide) (show _ = some _ from rfl) (by decide) ?_
        refine gz_aload_n gd_H_office_103 rfl rfl (gz_isr.r _) ?_
        refine gq_getf (y := .int (nI (T.tk o))) gd_H_office_104 gf_H_198 (hC.1.off o (by omega)) rfl rfl ?_
        refine gz_ireturn gd_H_office_107 rfl rfl ?_
        simp only [z_office, eo, ew] at k
        exact k _ _ _ _ _ _ (hC.le (by omega)) rfl
      ·
        refine gz_tableIn (tgt := 108) gd_H_office_12 (by decide) (by decide) (show _ = some _ from rfl) (by decide) ?_
        refine gz_aload_n gd_H_office_108 rfl rfl (gz_isr.r _) ?_
        refine gz_virtual0 gd_H_office_109 (hC.1.off o (by omega)) rfl rfl gs_H_office_109 (Nat.le_of_ble_eq_true rfl) (Nat.le_of_ble_eq_true rfl) ?_
        refine h_shownC (T := T.w_code 0) hC hB.w_code ho ?_
        refine gz_ireturn gd_H_office_112 rfl rfl ?_
        simp only [z_office, eo, ew] at k
        exact k _ _ _ _ _ _ (hC.le (by omega)) rfl
  ·
    simp only [z_office, eo] at kx
    exact kx _ _ _ _ _ _ _ ((hC.le (by omega)).recode 1) hx (by show ((1 : Int32), _) ∈ _; decide)

theorem h_letter {l : Launch} {D : gzD} {K : gzK} {M : gzM} {n nc ns : Nat} {M0 : gzM} {b : Nat} {v : gV} {g : gG} {T : CT} (hC : RC M0 b v g T M n nc ns)(hD : RM D) (hb : b + 1000 ≤ 300000) (hls : l.stackTraces = false) {xi xw : Int32} (hB : Bd T) (h0 : T.num 0 = 0) (k : ∀ v g M n nc ns, RC M0 (b + 560) v g ((z_letter T xi xw).2) M n nc ns → ((z_letter T xi xw).2).code = 0 → K (.inl (some (.int (z_letter T xi xw).1))) M n nc ns) (kx : ∀ e ci g M n nc ns, RC M0 (b + 560) v g ((z_letter T xi xw).2) M n nc ns → M e = some (.inr (ci, [])) → (((z_letter T xi xw).2).code, ci) ∈ ([(1, 8), (2, 9)] : List (Int32 × Nat)) → K (.inr e) M n nc ns) : GZ l P1 D F_H_letter K 0 [some (.ref 3), some (.int xi), some (.int xw), none] [] M n nc ns := by
  replace hC := hC.code 0
  refine gz_aload_n gd_H_letter_0 rfl rfl (gz_isr.r _) ?_
  refine gz_iload_n gd_H_letter_1 rfl rfl ?_
  refine gz_virtual1 gd_H_letter_2 hC.1.house rfl rfl gs_H_letter_2 (Nat.le_of_ble_eq_true rfl) (Nat.le_of_ble_eq_true rfl) ?_
  refine h_reqLetter hC hD (by omega) hls (fun i hi e0 => ?_) (fun ei ex M1 n1 nc1 ns1 hC hx => GT.out rfl ?_)
  ·
    subst e0
    have hcpl : T.post.length ≤ g.cap 0 ∧ g.cap 0 ≤ 760 := hC.2.1.capP
    replace hi : i < T.post.length := hi
    have ei := inR_s hi (show T.post.length < 2 ^ 31 by omega)
    refine gz_aload_n gd_H_letter_5 rfl rfl (gz_isr.r _) ?_
    refine gq_getf (y := .ref (6)) gd_H_letter_6 gf_H_24 hC.1.house rfl rfl ?_
    refine gz_iload_n gd_H_letter_9 rfl rfl ?_
    obtain ⟨mcx, hLO⟩ := hC.1.loP
    refine gz_virtual1 gd_H_letter_10 hLO rfl rfl gs_H_letter_10 (Nat.le_of_ble_eq_true rfl) (Nat.le_of_ble_eq_true rfl) ?_
    obtain ⟨y, hy⟩ : ∃ y, T.post[i]? = some y := ⟨T.post[i]'hi, List.getElem?_eq_getElem hi⟩
    have hyb := hB.post y (List.mem_of_getElem? hy)
    refine rl_getP (T := T.w_code 0) (i := i) (y := y) hC hy (fun kk hkc => ?_)
    obtain ⟨c, hkk, hcc⟩ := hkc
    refine gz_cast gd_H_letter_13 (ci := 2) rfl gw_504 hkk ?_
    refine gz_astore_n gd_H_letter_16 rfl (Nat.le_of_ble_eq_true rfl) rfl (gz_isr.r _) ?_
    refine gz_iload_n gd_H_letter_17 rfl rfl ?_
    cases ew : inR xw 5 with
    | none =>
      refine gz_tableOut (tgt := 86) gd_H_letter_18 (tsw_hi (n := 5) (by decide) ew) (by decide) ?_
      have hrx := hC.room hD (by omega)
      refine gz_throw hls gt_H_letter_86 gd_H_letter_86 gd_H_letter_89 gd_H_letter_90 gd_H_letter_92 gd_H_letter_95 rfl (Nat.le_of_ble_eq_true rfl) (Nat.le_of_ble_eq_true rfl) (by omega) (by omega) ?_
      simp only [z_letter, ei, ew] at kx
      exact kx _ _ _ _ _ _ _ ((((hC.alloc (fun j hj => gz_up_n hj) (by decide)).1).le (by omega)).recode 2) gz_up_s (by show ((2 : Int32), _) ∈ _; decide)
    | some w =>
      obtain ⟨hw, rfl⟩ := inR_some ew
      rcases (show w = 0 ∨ w = 1 ∨ w = 2 ∨ w = 3 ∨ w = 4 by omega) with rfl | rfl | rfl | rfl | rfl
      ·
        refine gz_tableIn (tgt := 52) gd_H_letter_18 (by decide) (by decide) (show _ = some _ from rfl) (by decide) ?_
        refine gz_aload_n gd_H_letter_52 rfl rfl (gz_isr.r _) ?_
        refine gq_getf (y := .int (nI y.1)) gd_H_letter_53 gf_H_194 hkk rfl rfl ?_
        refine gz_ireturn gd_H_letter_56 rfl rfl ?_
        simp only [z_letter, ei, ew, hy] at k
        exact k _ _ _ _ _ _ (hC.le (by omega)) rfl
      ·
        refine gz_tableIn (tgt := 57) gd_H_letter_18 (by decide) (by decide) (show _ = some _ from rfl) (by decide) ?_
        refine gz_aload_n gd_H_letter_57 rfl rfl (gz_isr.r _) ?_
        refine gq_getf (y := .int (y.2.1)) gd_H_letter_58 gf_H_197 hkk rfl rfl ?_
        refine gz_ireturn gd_H_letter_61 rfl rfl ?_
        simp only [z_letter, ei, ew, hy] at k
        exact k _ _ _ _ _ _ (hC.le (by omega)) rfl
      ·
        refine gz_tableIn (tgt := 62) gd_H_letter_18 (by decide) (by decide) (show _ = some _ from rfl) (by decide) ?_
        refine gz_aload_n gd_H_letter_62 rfl rfl (gz_isr.r _) ?_
        refine gq_getf (y := .int (nI y.2.2.1)) gd_H_letter_63 gf_H_201 hkk rfl rfl ?_
        refine gz_ireturn gd_H_letter_66 rfl rfl ?_
        simp only [z_letter, ei, ew, hy] at k
        exact k _ _ _ _ _ _ (hC.le (by omega)) rfl
      ·
        refine gz_tableIn (tgt := 67) gd_H_letter_18 (by decide) (by decide) (show _ = some _ from rfl) (by decide) ?_
        refine gz_aload_n gd_H_letter_67 rfl rfl (gz_isr.r _) ?_
        refine gq_getf (y := .ref (c)) gd_H_letter_68 gf_H_204 hkk rfl rfl ?_
        refine gq_getf (y := .int (nI y.2.2.2.1)) gd_H_letter_71 gf_H_213 hcc rfl rfl ?_
        refine gz_ireturn gd_H_letter_74 rfl rfl ?_
        simp only [z_letter, ei, ew, hy] at k
        exact k _ _ _ _ _ _ (hC.le (by omega)) rfl
      ·
        refine gz_tableIn (tgt := 75) gd_H_letter_18 (by decide) (by decide) (show _ = some _ from rfl) (by decide) ?_
        refine gz_aload_n gd_H_letter_75 rfl rfl (gz_isr.r _) ?_
        refine gq_getf (y := .ref (c)) gd_H_letter_76 gf_H_204 hkk rfl rfl ?_
        refine gq_getf (y := vref v y.2.2.2.2) gd_H_letter_79 gf_H_208 hcc rfl rfl ?_
        refine gz_static1 gd_H_letter_82 gs_H_letter_82 (gz_slen1 (vref_cat _ _) (Nat.le_of_ble_eq_true rfl)) (Nat.le_of_ble_eq_true rfl) ?_
        rw [gz_ent1 (vref_cat _ _)]
        refine h_numberOf (T := T.w_code 0) hC hyb.2.2.2.2 h0 ?_
        refine gz_ireturn gd_H_letter_85 rfl rfl ?_
        simp only [z_letter, ei, ew, hy] at k
        exact k _ _ _ _ _ _ (hC.le (by omega)) rfl
  ·
    replace ei : inR xi T.post.length = none := ei
    simp only [z_letter, ei] at kx
    exact kx _ _ _ _ _ _ _ ((hC.le (by omega)).recode 1) hx (by show ((1 : Int32), _) ∈ _; decide)

theorem rest_f {T : CT} : ∀ (i j : Nat), i ≤ j → y_rest T i = false → y_rest T j = false
  | i, j, hij, h => by
    induction j with
    | zero => rw [show i = 0 by omega] at h; exact h
    | succ j ih =>
      by_cases e : i = j + 1
      · rw [← e]; exact h
      · simp only [y_rest, ih (by omega), Bool.false_and]
theorem h_atRest {l : Launch} {D : gzD} {K : gzK} {M : gzM} {n nc ns : Nat} {M0 : gzM} {b : Nat} {v : gV} {g : gG} {T : CT} (hC : RC M0 b v g T M n nc ns)(hD : RM D) (hb : b + 1000 ≤ 300000) (hls : l.stackTraces = false) (hB : Bd T) (k : ∀ v g M n nc ns, RC M0 (b + 560) v g ((z_atRest T).2) M n nc ns → ((z_atRest T).2).code = 0 → K (.inl (some (.int (bI (z_atRest T).1)))) M n nc ns)  : GZ l P1 D F_H_isAtRest K 0 [some (.ref 3), none, none] [] M n nc ns := by
  replace hC := hC.code 0
  refine gz_aload_n gd_H_isAtRest_0 rfl rfl (gz_isr.r _) ?_
  refine gq_getf (y := .ref (6)) gd_H_isAtRest_1 gf_H_24 hC.1.house rfl rfl ?_
  obtain ⟨mcx, hLO⟩ := hC.1.loP
  refine gz_virtual0 gd_H_isAtRest_4 hLO rfl rfl gs_H_isAtRest_4 (Nat.le_of_ble_eq_true rfl) (Nat.le_of_ble_eq_true rfl) ?_
  refine rl_isEmptyP hC ?_
  refine gz_if_ne (tgt := 12) gd_H_isAtRest_7 (by decide) (fun h7 => ?_) (fun h7 => ?_)
  ·
    replace h7 := bI_n.1 h7
    refine gz_iconst (v := 0) gd_H_isAtRest_12 (by decide) ?_
    refine gz_istore_n gd_H_isAtRest_13 rfl (Nat.le_of_ble_eq_true rfl) rfl ?_
    replace h7 : y_rest T 0 = true := h7
    have loop : ∀ (j i : Nat), i + j = 12 → ∀ (y2 : Option Value), y_rest T i = true → GZ l P1 D F_H_isAtRest K 14 [some (.ref 3), some (.int (nI i)), y2] [] M n nc ns := by
      intro j
      induction j with
      | zero =>
        intro i hi y2 hr
        refine gz_iload_n gd_H_isAtRest_14 rfl rfl ?_
        refine gz_bipush (v := 12) gd_H_isAtRest_15 (by decide) ?_
        refine gz_icmp_ge (tgt := 57) gd_H_isAtRest_17 (by decide) (fun h17 => ?_) (fun h17 => ?_)
        ·
          replace h17 := (nI_leI (a := 12) (b := i) (by omega) (by omega)).1 h17
          refine gz_iconst (v := 1) gd_H_isAtRest_57 (by decide) ?_
          refine gz_ireturn gd_H_isAtRest_58 rfl rfl ?_
          have e12 : i = 12 := by omega
          rw [e12] at hr
          unfold z_atRest at k
          rw [hr] at k
          exact k _ _ _ _ _ _ (hC.le (by omega)) rfl
        ·
          replace h17 := mt (nI_leI (a := 12) (b := i) (by omega) (by omega)).2 h17
          omega
      | succ j ih =>
        intro i hi y2 hr
        refine gz_iload_n gd_H_isAtRest_14 rfl rfl ?_
        refine gz_bipush (v := 12) gd_H_isAtRest_15 (by decide) ?_
        refine gz_icmp_ge (tgt := 57) gd_H_isAtRest_17 (by decide) (fun h17 => ?_) (fun h17 => ?_)
        ·
          replace h17 := (nI_leI (a := 12) (b := i) (by omega) (by omega)).1 h17
          omega
        ·
          replace h17 := mt (nI_leI (a := 12) (b := i) (by omega) (by omega)).2 h17
          refine gz_aload_n gd_H_isAtRest_20 rfl rfl (gz_isr.r _) ?_
          refine gq_getf (y := .ref (5)) gd_H_isAtRest_21 gf_H_17 hC.1.house rfl rfl ?_
          refine gz_iload_n gd_H_isAtRest_24 rfl rfl ?_
          refine rc_offs (o := i) gd_H_isAtRest_25 hC (by omega) ?_
          refine gz_astore_n gd_H_isAtRest_26 rfl (Nat.le_of_ble_eq_true rfl) rfl (gz_isr.r _) ?_
          refine gz_aload_n gd_H_isAtRest_27 rfl rfl (gz_isr.r _) ?_
          refine gq_getf (y := .int (nI (T.tk i))) gd_H_isAtRest_28 gf_H_198 (hC.1.off i (by omega)) rfl rfl ?_
          refine gz_aload_n gd_H_isAtRest_31 rfl rfl (gz_isr.r _) ?_
          refine gq_getf (y := .ref (15 + 6 * i)) gd_H_isAtRest_32 gf_H_236 (hC.1.off i (by omega)) rfl rfl ?_
          obtain ⟨mcx, hLO⟩ := hC.1.loL i (by omega)
          refine gz_virtual0 gd_H_isAtRest_35 hLO rfl rfl gs_H_isAtRest_35 (Nat.le_of_ble_eq_true rfl) (Nat.le_of_ble_eq_true rfl) ?_
          refine rl_sizeL hC (by omega) ?_
          have htk := hB.tk i (by omega)
          have hln := hB.lineN i (by omega)
          refine gz_icmp_ne (tgt := 49) gd_H_isAtRest_38 (by decide) (fun h38 => ?_) (fun h38 => ?_)
          ·
            replace h38 := mt (nI_eq (a := T.tk i) (b := (T.line i).length) (by omega) (by omega)).2 h38
            refine gz_iconst (v := 0) gd_H_isAtRest_49 (by decide) ?_
            refine gz_ireturn gd_H_isAtRest_50 rfl rfl ?_
            have e : y_rest T 12 = false := rest_f (i + 1) 12 (by omega) (by simp only [y_rest, decide_eq_false h38, Bool.and_false, Bool.false_and])
            unfold z_atRest at k
            rw [e] at k
            exact k _ _ _ _ _ _ (hC.le (by omega)) rfl
          ·
            replace h38 := (nI_eq (a := T.tk i) (b := (T.line i).length) (by omega) (by omega)).1 h38
            refine gz_aload_n gd_H_isAtRest_41 rfl rfl (gz_isr.r _) ?_
            refine gz_aload_n gd_H_isAtRest_42 rfl rfl (gz_isr.r _) ?_
            refine gz_virtual1 gd_H_isAtRest_43 hC.1.house rfl rfl gs_H_isAtRest_43 (Nat.le_of_ble_eq_true rfl) (Nat.le_of_ble_eq_true rfl) ?_
            refine h_waits hC hB.w_code (by omega) ?_
            refine gz_if_eq (tgt := 51) gd_H_isAtRest_46 (by decide) (fun h46 => ?_) (fun h46 => ?_)
            ·
              replace h46 := (nI_z (Nat.lt_trans (waits_lt hB (o := i)) (by decide))).1 h46
              refine gz_iinc (v := nI (i + 1)) gd_H_isAtRest_51 rfl (nI_1 i) (Nat.le_of_ble_eq_true rfl) rfl ?_
              refine gz_goto (tgt := 14) gd_H_isAtRest_54 (by decide) ?_
              exact ih (i + 1) (by omega) _ (by simp only [y_rest, hr, decide_eq_true h38, decide_eq_true h46, Bool.and_self])
            ·
              replace h46 := mt (nI_z (Nat.lt_trans (waits_lt hB (o := i)) (by decide))).2 h46
              refine gz_iconst (v := 0) gd_H_isAtRest_49 (by decide) ?_
              refine gz_ireturn gd_H_isAtRest_50 rfl rfl ?_
              have e : y_rest T 12 = false := rest_f (i + 1) 12 (by omega) (by simp only [y_rest, decide_eq_false h46, Bool.and_false, Bool.false_and])
              unfold z_atRest at k
              rw [e] at k
              exact k _ _ _ _ _ _ (hC.le (by omega)) rfl
    exact loop 12 0 (by omega) none h7
  ·
    replace h7 := bI_0.1 h7
    refine gz_iconst (v := 0) gd_H_isAtRest_10 (by decide) ?_
    refine gz_ireturn gd_H_isAtRest_11 rfl rfl ?_
    have e : y_rest T 12 = false := rest_f 0 12 (by omega) h7
    unfold z_atRest at k
    rw [e] at k
    exact k _ _ _ _ _ _ (hC.le (by omega)) rfl

theorem h_twin {l : Launch} {D : gzD} {K : gzK} {M : gzM} {n nc ns : Nat} {M0 : gzM} {b : Nat} {v : gV} {g : gG} {T : CT} (hC : RC M0 b v g T M n nc ns)(hD : RM D) (hb : b + 1000 ≤ 300000) (hls : l.stackTraces = false) {xi : Int32} (hB : Bd T) (k : ∀ v g M n nc ns, RC M0 (b + 560) v g ((z_twin T xi).2) M n nc ns → ((z_twin T xi).2).code = 0 → K (.inl (some (.int (z_twin T xi).1))) M n nc ns) (kx : ∀ e ci g M n nc ns, RC M0 (b + 560) v g ((z_twin T xi).2) M n nc ns → M e = some (.inr (ci, [])) → (((z_twin T xi).2).code, ci) ∈ ([(1, 8), (2, 10)] : List (Int32 × Nat)) → K (.inr e) M n nc ns) : GZ l P1 D F_H_twin K 0 [some (.ref 3), some (.int xi)] [] M n nc ns := by
  replace hC := hC.code 0
  have hpN := hB.postN
  refine gz_aload_n gd_H_twin_0 rfl rfl (gz_isr.r _) ?_
  refine gz_iload_n gd_H_twin_1 rfl rfl ?_
  refine gz_virtual1 gd_H_twin_2 hC.1.house rfl rfl gs_H_twin_2 (Nat.le_of_ble_eq_true rfl) (Nat.le_of_ble_eq_true rfl) ?_
  refine h_reqLetter hC hD (by omega) hls (fun i hi e0 => ?_) (fun ei ex M1 n1 nc1 ns1 hC hx => GT.out rfl ?_)
  ·
    subst e0
    have hcpl : T.post.length ≤ g.cap 0 ∧ g.cap 0 ≤ 760 := hC.2.1.capP
    replace hi : i < T.post.length := hi
    have ei := inR_s hi (show T.post.length < 2 ^ 31 by omega)
    refine gz_aload_n gd_H_twin_5 rfl rfl (gz_isr.r _) ?_
    refine gq_getf (y := .ref (6)) gd_H_twin_6 gf_H_24 hC.1.house rfl rfl ?_
    obtain ⟨mcx, hLO⟩ := hC.1.loP
    refine gz_virtual0 gd_H_twin_9 hLO rfl rfl gs_H_twin_9 (Nat.le_of_ble_eq_true rfl) (Nat.le_of_ble_eq_true rfl) ?_
    refine rl_sizeP hC ?_
    refine gz_sipush (v := 500) gd_H_twin_12 (by decide) ?_
    refine gz_icmp_lt (tgt := 28) gd_H_twin_15 (by decide) (fun h15 => ?_) (fun h15 => ?_)
    ·
      replace h15 := (nI_ltI (a := T.post.length) (b := 500) (by omega) (by omega)).1 h15
      refine gz_aload_n gd_H_twin_28 rfl rfl (gz_isr.r _) ?_
      refine gq_getf (y := .ref (6)) gd_H_twin_29 gf_H_24 hC.1.house rfl rfl ?_
      refine gz_aload_n gd_H_twin_32 rfl rfl (gz_isr.r _) ?_
      refine gq_getf (y := .ref (6)) gd_H_twin_33 gf_H_24 hC.1.house rfl rfl ?_
      refine gz_iload_n gd_H_twin_36 rfl rfl ?_
      obtain ⟨mcx, hLO⟩ := hC.1.loP
      refine gz_virtual1 gd_H_twin_37 hLO rfl rfl gs_H_twin_37 (Nat.le_of_ble_eq_true rfl) (Nat.le_of_ble_eq_true rfl) ?_
      obtain ⟨y, hy⟩ : ∃ y, T.post[i]? = some y := ⟨T.post[i]'hi, List.getElem?_eq_getElem hi⟩
      refine rl_getP (T := T.w_code 0) (i := i) (y := y) hC hy (fun kk hkc => ?_)
      obtain ⟨c, hkk, hcc⟩ := hkc
      refine gz_cast gd_H_twin_40 (ci := 2) rfl gw_504 hkk ?_
      obtain ⟨mcx, hLO⟩ := hC.1.loP
      refine gz_virtual1 gd_H_twin_43 hLO rfl rfl gs_H_twin_43 (Nat.le_of_ble_eq_true rfl) (Nat.le_of_ble_eq_true rfl) ?_
      refine rl_addP (T := T.w_code 0) (y := y) hC hD (by omega) hkk hcc (show T.post.length < 500 by omega) (fun g1 M3 n1 nc1 ns1 hC hK => ?_)
      replace hC : RC M0 b v g1 (y_twin (T.w_code 0) i) M3 n1 nc1 ns1 := by
        have e : y_twin (T.w_code 0) i = (T.w_code 0).w_post (T.post ++ [y]) := by
          unfold y_twin
          rw [show (T.w_code 0).post[i]? = some y from hy]
          rfl
        rw [e]
        exact hC
      refine gz_pop gd_H_twin_46 rfl ?_
      refine gz_aload_n gd_H_twin_47 rfl rfl (gz_isr.r _) ?_
      refine gq_getf (y := .ref (6)) gd_H_twin_48 gf_H_24 hC.1.house rfl rfl ?_
      obtain ⟨mcx, hLO⟩ := hC.1.loP
      refine gz_virtual0 gd_H_twin_51 hLO rfl rfl gs_H_twin_51 (Nat.le_of_ble_eq_true rfl) (Nat.le_of_ble_eq_true rfl) ?_
      refine rl_sizeP hC ?_
      rw [show (y_twin (T.w_code 0) i).post.length = T.post.length + 1 by unfold y_twin; rw [show (T.w_code 0).post[i]? = some y from hy]; show (T.post ++ [y]).length = _; simp]
      refine gz_ireturn gd_H_twin_54 rfl rfl ?_
      simp only [z_twin, ei, if_neg (show ¬ T.post.length = 500 by omega)] at k
      exact k _ _ _ _ _ _ (hC.le (by omega)) (by unfold y_twin; rw [show (T.w_code 0).post[i]? = some y from hy]; rfl)
    ·
      replace h15 := mt (nI_ltI (a := T.post.length) (b := 500) (by omega) (by omega)).2 h15
      have hrx := hC.room hD (by omega)
      refine gz_throw hls gt_H_twin_18 gd_H_twin_18 gd_H_twin_21 gd_H_twin_22 gd_H_twin_24 gd_H_twin_27 rfl (Nat.le_of_ble_eq_true rfl) (Nat.le_of_ble_eq_true rfl) (by omega) (by omega) ?_
      simp only [z_twin, ei, if_pos (show T.post.length = 500 by omega)] at kx
      exact kx _ _ _ _ _ _ _ ((((hC.alloc (fun j hj => gz_up_n hj) (by decide)).1).le (by omega)).recode 2) gz_up_s (by show ((2 : Int32), _) ∈ _; decide)
  ·
    replace ei : inR xi T.post.length = none := ei
    simp only [z_twin, ei] at kx
    exact kx _ _ _ _ _ _ _ ((hC.le (by omega)).recode 1) hx (by show ((1 : Int32), _) ∈ _; decide)

