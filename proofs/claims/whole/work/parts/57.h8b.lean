/-! The class: fail. Printed by wip/whole/h8.py -/
theorem h_fail {l : Launch} {D : gzD} {K : gzK} {M : gzM} {n nc ns : Nat} {M0 : gzM} {b : Nat} {v : gV} {g : gG} {T : CT} (hC : RC M0 b v g T M n nc ns)(hD : RM D) (hb : b + 1000 ≤ 300000) (hls : l.stackTraces = false) {xo : Int32} (hI : JI T) (hTL : TL T) (hP : pot T + 40 ≤ 9000) (hns : ∀ o, o < 12 → T.par o ≠ some o) (k : ∀ v g M n nc ns, RC M0 (b + 560) v g ((z_fail T xo).2) M n nc ns → ((z_fail T xo).2).code = 0 → K (.inl (some (.int (z_fail T xo).1))) M n nc ns) (kx : ∀ e ci g M n nc ns, RC M0 (b + 560) v g ((z_fail T xo).2) M n nc ns → M e = some (.inr (ci, [])) → (((z_fail T xo).2).code, ci) ∈ ([(1, 8), (2, 10), (3, 11)] : List (Int32 × Nat)) → K (.inr e) M n nc ns) : GZ l P1 D F_H_fail K 0 [some (.ref 3), some (.int xo), none, none, none] [] M n nc ns := by
  replace hC := hC.code 0
  have hfl := hI.1.fl
  refine gz_iload_n gd_H_fail_0 rfl rfl ?_
  refine gz_static1 gd_H_fail_1 gs_H_fail_1 (Nat.le_of_ble_eq_true rfl) (Nat.le_of_ble_eq_true rfl) ?_
  refine h_reqOffice hC hD (by omega) hls (fun o ho e0 => ?_) (fun eo ex M1 n1 nc1 ns1 hC hx => GT.out rfl ?_)
  ·
    subst e0
    have eo := inR_s ho (show 12 < 2 ^ 31 by decide)
    refine gz_aload_n gd_H_fail_4 rfl rfl (gz_isr.r _) ?_
    refine gq_getf (y := .ref (5)) gd_H_fail_5 gf_H_17 hC.1.house rfl rfl ?_
    refine gz_iload_n gd_H_fail_8 rfl rfl ?_
    refine rc_offs (o := o) gd_H_fail_9 hC (by omega) ?_
    refine gz_astore_n gd_H_fail_10 rfl (Nat.le_of_ble_eq_true rfl) rfl (gz_isr.r _) ?_
    refine gz_aload_n gd_H_fail_11 rfl rfl (gz_isr.r _) ?_
    refine gq_getf (y := .int (bI (T.up o))) gd_H_fail_12 gf_H_119 (hC.1.off o (by omega)) rfl rfl ?_
    refine gz_if_ne (tgt := 28) gd_H_fail_15 (by decide) (fun h15 => ?_) (fun h15 => ?_)
    ·
      replace h15 := bI_n.1 h15
      have hself : ((T.w_code 0).w_fl (T.fl + 1)).par o ≠ some o := hns o ho
      refine gz_aload_n gd_H_fail_28 rfl rfl (gz_isr.r _) ?_
      refine gq_getf (y := .int (nI T.fl)) gd_H_fail_29 gf_H_154 hC.1.house rfl rfl ?_
      refine gz_bipush (v := 30) gd_H_fail_32 (by decide) ?_
      refine gz_icmp_lt (tgt := 47) gd_H_fail_34 (by decide) (fun h34 => ?_) (fun h34 => ?_)
      ·
        replace h34 := (nI_ltI (a := T.fl) (b := 30) (by omega) (by omega)).1 h34
        refine gz_aload_n gd_H_fail_47 rfl rfl (gz_isr.r _) ?_
        refine gz_dup gd_H_fail_48 rfl ?_
        refine gq_getf (y := .int (nI T.fl)) gd_H_fail_49 gf_H_154 hC.1.house rfl rfl ?_
        refine gz_iconst (v := 1) gd_H_fail_52 (by decide) ?_
        refine gq_iadd (z := nI (T.fl + 1)) gd_H_fail_53 (nI_add T.fl 1) ?_
        refine rp_fl (x := T.fl + 1) gd_H_fail_54 gf_H_154 gr_H_fail_0_9 hC (fun M hC => ?_)
        refine gz_aload_n gd_H_fail_57 rfl rfl (gz_isr.r _) ?_
        refine gz_aload_n gd_H_fail_58 rfl rfl (gz_isr.r _) ?_
        refine gz_virtual1 gd_H_fail_59 hC.1.house rfl rfl gs_H_fail_59 (Nat.le_of_ble_eq_true rfl) (Nat.le_of_ble_eq_true rfl) ?_
        replace hC : RC M0 (b + 2) v g ((T.w_code 0).w_fl (T.fl + 1)) M n nc ns := hC.le (by omega)
        have hJ : JI ((T.w_code 0).w_fl (T.fl + 1)) := (JI.code (v := 0) hI).w_fl (by omega)
        have hPp : pot ((T.w_code 0).w_fl (T.fl + 1)) + 40 ≤ 9000 := by rw [pot_wfl, pot_code]; exact hP
        refine h_awc hC hD (by omega) ho hJ (hTL.of rfl rfl) hPp (fun g1 M1 n1 nc1 ns1 hC => ?_)
        have hA : Bd (y_awc ((T.w_code 0).w_fl (T.fl + 1)) o) := by rw [awc_eq hself]; exact (away_J hJ ho hPp).1
        refine gz_iconst (v := 0) gd_H_fail_62 (by decide) ?_
        refine gz_istore_n gd_H_fail_63 rfl (Nat.le_of_ble_eq_true rfl) rfl ?_
        refine gz_iconst (v := 0) gd_H_fail_64 (by decide) ?_
        refine gz_istore gd_H_fail_65 (Nat.le_of_ble_eq_true rfl) rfl ?_
        have loop : ∀ (j i : Nat), i + j = 12 → ∀ a g M n nc ns, a = sN i (fun c => if (y_awc ((T.w_code 0).w_fl (T.fl + 1)) o).par c = some o then 1 else 0) → RC M0 (b + 82) v g (y_ch (y_awc ((T.w_code 0).w_fl (T.fl + 1)) o) o i) M n nc ns → GZ l P1 D F_H_fail K 67 [some (.ref 3), some (.int (nI o)), some (.ref (11 + 6 * o)), some (.int (nI a)), some (.int (nI i))] [] M n nc ns := by
          intro j
          induction j with
          | zero =>
            intro i hi a g M n nc ns ha hC
            have hB := ch_B (o := o) hA i
            have hcp := ch_par (T := (y_awc ((T.w_code 0).w_fl (T.fl + 1)) o)) (o := o) i i (Nat.le_refl _)
            refine gz_iload gd_H_fail_67 rfl ?_
            refine gz_bipush (v := 12) gd_H_fail_69 (by decide) ?_
            refine gz_icmp_ge (tgt := 107) gd_H_fail_71 (by decide) (fun h71 => ?_) (fun h71 => ?_)
            ·
              replace h71 := (nI_leI (a := 12) (b := i) (by omega) (by omega)).1 h71
              have ei : i = 12 := by omega
              rw [ei] at hC ha
              refine gz_aload_n gd_H_fail_107 rfl rfl (gz_isr.r _) ?_
              refine gz_virtual0 gd_H_fail_108 (hC.1.off o (by omega)) rfl rfl gs_H_fail_108 (Nat.le_of_ble_eq_true rfl) (Nat.le_of_ble_eq_true rfl) ?_
              refine h_forget hC ho (fun M hC => ?_)
              refine gz_aload_n gd_H_fail_111 rfl rfl (gz_isr.r _) ?_
              refine gz_iconst (v := 0) gd_H_fail_112 (by decide) ?_
              refine rp_up0 gd_H_fail_113 gf_H_119 gr_H_fail_3_9 hC (by omega) (fun M hC => ?_)
              refine gz_iload_n gd_H_fail_116 rfl rfl ?_
              refine gz_ireturn gd_H_fail_117 rfl rfl ?_
              rw [fail_eq hself] at hC
              simp only [z_fail, eo, if_pos h15, if_neg (show ¬ T.fl = 30 by omega)] at k
              rw [ha, show sN 12 (fun c => if (y_awc ((T.w_code 0).w_fl (T.fl + 1)) o).par c = some o then 1 else 0) = y_kids ((T.w_code 0).w_fl (T.fl + 1)) o by rw [← kids_away hJ ho hPp hself, ← awc_eq hself]; rfl]
              exact k _ _ _ _ _ _ (hC.le (by omega)) (by rw [fail_code]; rfl)
            ·
              replace h71 := mt (nI_leI (a := 12) (b := i) (by omega) (by omega)).2 h71
              omega
          | succ j ih =>
            intro i hi a g M n nc ns ha hC
            have hB := ch_B (o := o) hA i
            have hcp := ch_par (T := (y_awc ((T.w_code 0).w_fl (T.fl + 1)) o)) (o := o) i i (Nat.le_refl _)
            refine gz_iload gd_H_fail_67 rfl ?_
            refine gz_bipush (v := 12) gd_H_fail_69 (by decide) ?_
            refine gz_icmp_ge (tgt := 107) gd_H_fail_71 (by decide) (fun h71 => ?_) (fun h71 => ?_)
            ·
              replace h71 := (nI_leI (a := 12) (b := i) (by omega) (by omega)).1 h71
              omega
            ·
              replace h71 := mt (nI_leI (a := 12) (b := i) (by omega) (by omega)).2 h71
              refine gz_aload_n gd_H_fail_74 rfl rfl (gz_isr.r _) ?_
              refine gq_getf (y := .ref (5)) gd_H_fail_75 gf_H_17 hC.1.house rfl rfl ?_
              refine gz_iload gd_H_fail_78 rfl ?_
              refine rc_offs (o := i) gd_H_fail_80 hC (by omega) ?_
              refine gq_getf (y := .int (oI ((y_ch (y_awc ((T.w_code 0).w_fl (T.fl + 1)) o) o i).par i))) gd_H_fail_81 gf_H_138 (hC.1.off i (by omega)) rfl rfl ?_
              refine gz_iload_n gd_H_fail_84 rfl rfl ?_
              refine gz_icmp_ne (tgt := 101) gd_H_fail_85 (by decide) (fun h85 => ?_) (fun h85 => ?_)
              ·
                replace h85 := mt (oI_eq (o := o) (fun j hj => hB.par _ _ (by omega) hj) (by omega)).2 h85
                refine gz_iinc (v := nI (i + 1)) gd_H_fail_101 rfl (nI_1 i) (Nat.le_of_ble_eq_true rfl) rfl ?_
                refine gz_goto (tgt := 67) gd_H_fail_104 (by decide) ?_
                have e : y_ch (y_awc ((T.w_code 0).w_fl (T.fl + 1)) o) o (i + 1) = (y_ch (y_awc ((T.w_code 0).w_fl (T.fl + 1)) o) o i) := if_neg h85
                rw [← e] at hC
                exact ih (i + 1) (by omega) _ _ _ _ _ _ (by rw [ha]; show _ = sN i (fun c => if (y_awc ((T.w_code 0).w_fl (T.fl + 1)) o).par c = some o then 1 else 0) + (if (y_awc ((T.w_code 0).w_fl (T.fl + 1)) o).par i = some o then 1 else 0); rw [if_neg (by rw [← hcp]; exact h85)]; rfl) hC
              ·
                replace h85 := (oI_eq (o := o) (fun j hj => hB.par _ _ (by omega) hj) (by omega)).1 h85
                refine gz_aload_n gd_H_fail_88 rfl rfl (gz_isr.r _) ?_
                refine gq_getf (y := .ref (5)) gd_H_fail_89 gf_H_17 hC.1.house rfl rfl ?_
                refine gz_iload gd_H_fail_92 rfl ?_
                refine rc_offs (o := i) gd_H_fail_94 hC (by omega) ?_
                refine gz_virtual0 gd_H_fail_95 (hC.1.off i (by omega)) rfl rfl gs_H_fail_95 (Nat.le_of_ble_eq_true rfl) (Nat.le_of_ble_eq_true rfl) ?_
                refine h_leave hC (by omega) (fun g1 M1 n1 nc1 ns1 hC => ?_)
                refine gz_iinc (v := nI (a + 1)) gd_H_fail_98 rfl (nI_1 a) (Nat.le_of_ble_eq_true rfl) rfl ?_
                refine gz_iinc (v := nI (i + 1)) gd_H_fail_101 rfl (nI_1 i) (Nat.le_of_ble_eq_true rfl) rfl ?_
                refine gz_goto (tgt := 67) gd_H_fail_104 (by decide) ?_
                have e : y_ch (y_awc ((T.w_code 0).w_fl (T.fl + 1)) o) o (i + 1) = y_end (y_ch (y_awc ((T.w_code 0).w_fl (T.fl + 1)) o) o i) i := if_pos h85
                rw [← e] at hC
                exact ih (i + 1) (by omega) _ _ _ _ _ _ (by rw [ha]; show _ = sN i (fun c => if (y_awc ((T.w_code 0).w_fl (T.fl + 1)) o).par c = some o then 1 else 0) + (if (y_awc ((T.w_code 0).w_fl (T.fl + 1)) o).par i = some o then 1 else 0); rw [if_pos (by rw [← hcp]; exact h85)]) hC
        exact loop 12 0 (by omega) 0 _ _ _ _ _ rfl hC
      ·
        replace h34 := mt (nI_ltI (a := T.fl) (b := 30) (by omega) (by omega)).2 h34
        have hrx := hC.room hD (by omega)
        refine gz_throw hls gt_H_fail_37 gd_H_fail_37 gd_H_fail_40 gd_H_fail_41 gd_H_fail_43 gd_H_fail_46 rfl (Nat.le_of_ble_eq_true rfl) (Nat.le_of_ble_eq_true rfl) (by omega) (by omega) ?_
        simp only [z_fail, eo, if_pos h15, if_pos (show T.fl = 30 by omega)] at kx
        exact kx _ _ _ _ _ _ _ ((((hC.alloc (fun j hj => gz_up_n hj) (by decide)).1).le (by omega)).recode 3) gz_up_s (by show ((3 : Int32), _) ∈ _; decide)
    ·
      replace h15 := bI_0.1 h15
      have hrx := hC.room hD (by omega)
      refine gz_throw hls gt_H_fail_18 gd_H_fail_18 gd_H_fail_21 gd_H_fail_22 gd_H_fail_24 gd_H_fail_27 rfl (Nat.le_of_ble_eq_true rfl) (Nat.le_of_ble_eq_true rfl) (by omega) (by omega) ?_
      simp only [z_fail, eo, if_neg (bf h15)] at kx
      exact kx _ _ _ _ _ _ _ ((((hC.alloc (fun j hj => gz_up_n hj) (by decide)).1).le (by omega)).recode 2) gz_up_s (by show ((2 : Int32), _) ∈ _; decide)
  ·
    simp only [z_fail, eo] at kx
    exact kx _ _ _ _ _ _ _ ((hC.le (by omega)).recode 1) hx (by show ((1 : Int32), _) ∈ _; decide)

