/-! The class: hang, deliver, precinct. Printed by wip/whole/h9.py -/
theorem tl_code {T : CT} {o : Nat} : ∀ i, (y_tl T o i).code = T.code
  | 0 => rfl
  | i + 1 => by
    simp only [y_tl]
    split
    · exact tl_code i
    · exact y_tell_code.trans (tl_code i)
theorem tl_fr {T : CT} {o : Nat} : ∀ i, (y_tl T o i).par = T.par ∧ (y_tl T o i).ep = T.ep
  | 0 => ⟨rfl, rfl⟩
  | i + 1 => by
    have ih := tl_fr (T := T) (o := o) i
    simp only [y_tl]
    split
    · exact ih
    · exact ⟨y_tell_par.trans ih.1, y_tell_ep.trans ih.2⟩
theorem hang_code {T : CT} {o u : Nat} : (y_hang T o u).code = T.code := by
  unfold y_hang
  rw [tl_code]
  exact away_code
theorem pot_whg {T : CT} {v : Nat} : pot (T.w_hg v) = pot T := rfl
theorem pot_pep {T : CT} {o : Nat} {v : Int32} : pot (T.p_ep o v) = pot T := rfl
theorem pot_ppar {T : CT} {o : Nat} {v : Option Nat} : pot (T.p_par o v) = pot T := rfl
theorem pot_ptk {T : CT} {o v : Nat} : pot (T.p_tk o v) = pot T := rfl
theorem pot_drop {T : CT} {i : Nat} : pot (y_drop T i) = pot T := rfl
theorem pot_hg {T : CT} {o u : Nat} : pot (y_hg T o u) = pot (y_away T o) := by
  unfold y_hg
  rw [pot_pep, pot_ppar]
theorem ppar_f {G : CT} {o : Nat} {x : Option Nat} : (G.p_par o x).ow = G.ow ∧ (G.p_par o x).last = G.last := ⟨rfl, rfl⟩
theorem pep_f {G : CT} {o : Nat} {x : Int32} : (G.p_ep o x).ow = G.ow ∧ (G.p_ep o x).last = G.last ∧ (G.p_ep o x).par = G.par := ⟨rfl, rfl, rfl⟩
theorem code_code {T : CT} {y z : Int32} : (T.w_code y).w_code z = T.w_code z := by
  simp only [CT.w_code, CT.there, CT.home, CT.reg, CT.last, CT.vs, CT.num, CT.vote, CT.mark, CT.draft, CT.up, CT.par, CT.ep, CT.shown, CT.src, CT.ow, CT.line, CT.tk, CT.wt, CT.post, CT.hg, CT.fl, CT.code]
theorem in_code {T : CT} {top : Nat} {x : Int32} : ∀ k a, y_in (T.w_code x) top k a = y_in T top k a
  | 0, _ => rfl
  | _ + 1, none => rfl
  | k + 1, some a => by
    simp only [y_in]
    split
    · rfl
    · exact in_code k _
theorem hg_par {T : CT} {o u : Nat} : (y_hg T o u).par o = some u := by
  unfold y_hg
  rw [pep_f.2.2]
  exact if_pos rfl
theorem h_hang {l : Launch} {D : gzD} {K : gzK} {M : gzM} {n nc ns : Nat} {M0 : gzM} {b : Nat} {v : gV} {g : gG} {T : CT} (hC : RC M0 b v g T M n nc ns)(hD : RM D) (hb : b + 1000 ≤ 300000) (hls : l.stackTraces = false) {xo xu : Int32} (hI : JI T) (hTL : TL T) (hP : pot T + 80 ≤ 9000) (hns : ∀ o, o < 12 → T.par o ≠ some o) (hU : ∀ o u, u < 12 → y_und T o 13 (some u) = some (y_in T o 12 (some u))) (k : ∀ v g M n nc ns, RC M0 (b + 560) v g ((z_hang T xo xu).2) M n nc ns → ((z_hang T xo xu).2).code = 0 → K (.inl (some (.int (z_hang T xo xu).1))) M n nc ns) (kx : ∀ e ci g M n nc ns, RC M0 (b + 560) v g ((z_hang T xo xu).2) M n nc ns → M e = some (.inr (ci, [])) → (((z_hang T xo xu).2).code, ci) ∈ ([(1, 8), (2, 9), (3, 10), (4, 11)] : List (Int32 × Nat)) → K (.inr e) M n nc ns) : GZ l P1 D F_H_hang K 0 [some (.ref 3), some (.int xo), some (.int xu), none, none] [] M n nc ns := by
  replace hC := hC.code 0
  have hhg := hI.1.hg
  have hB := hI.1
  refine gz_iload_n gd_H_hang_0 rfl rfl ?_
  refine gz_static1 gd_H_hang_1 gs_H_hang_1 (Nat.le_of_ble_eq_true rfl) (Nat.le_of_ble_eq_true rfl) ?_
  refine h_reqOffice hC hD (by omega) hls (fun o ho e0 => ?_) (fun eo ex M1 n1 nc1 ns1 hC hx => GT.out rfl ?_)
  ·
    subst e0
    have eo := inR_s ho (show 12 < 2 ^ 31 by decide)
    refine gz_iload_n gd_H_hang_4 rfl rfl ?_
    refine gz_static1 gd_H_hang_5 gs_H_hang_5 (Nat.le_of_ble_eq_true rfl) (Nat.le_of_ble_eq_true rfl) ?_
    refine h_reqOffice hC hD (by omega) hls (fun u hu e0 => ?_) (fun eu ex M1 n1 nc1 ns1 hC hx => GT.out rfl ?_)
    ·
      subst e0
      have eu := inR_s hu (show 12 < 2 ^ 31 by decide)
      refine gz_iload_n gd_H_hang_8 rfl rfl ?_
      refine gz_if_eq (tgt := 17) gd_H_hang_9 (by decide) (fun h9 => ?_) (fun h9 => ?_)
      ·
        replace h9 := (nI_z (by omega)).1 h9
        have hrx := hC.room hD (by omega)
        refine gz_throw hls gt_H_hang_17 gd_H_hang_17 gd_H_hang_20 gd_H_hang_21 gd_H_hang_23 gd_H_hang_26 rfl (Nat.le_of_ble_eq_true rfl) (Nat.le_of_ble_eq_true rfl) (by omega) (by omega) ?_
        simp only [z_hang, eo, eu, if_pos h9] at kx
        exact kx _ _ _ _ _ _ _ ((((hC.alloc (fun j hj => gz_up_n hj) (by decide)).1).le (by omega)).recode 2) gz_up_s (by show ((2 : Int32), _) ∈ _; decide)
      ·
        replace h9 := mt (nI_z (by omega)).2 h9
        refine gz_iload_n gd_H_hang_12 rfl rfl ?_
        refine gz_iload_n gd_H_hang_13 rfl rfl ?_
        refine gz_icmp_ne (tgt := 27) gd_H_hang_14 (by decide) (fun h14 => ?_) (fun h14 => ?_)
        ·
          replace h14 := mt (nI_eq (a := o) (b := u) (by omega) (by omega)).2 h14
          refine gz_aload_n gd_H_hang_27 rfl rfl (gz_isr.r _) ?_
          refine gq_getf (y := .ref (5)) gd_H_hang_28 gf_H_17 hC.1.house rfl rfl ?_
          refine gz_iload_n gd_H_hang_31 rfl rfl ?_
          refine rc_offs (o := o) gd_H_hang_32 hC (by omega) ?_
          refine gz_astore_n gd_H_hang_33 rfl (Nat.le_of_ble_eq_true rfl) rfl (gz_isr.r _) ?_
          refine gz_aload_n gd_H_hang_34 rfl rfl (gz_isr.r _) ?_
          refine gq_getf (y := .int (bI (T.up o))) gd_H_hang_35 gf_H_119 (hC.1.off o (by omega)) rfl rfl ?_
          refine gz_if_eq (tgt := 62) gd_H_hang_38 (by decide) (fun h38 => ?_) (fun h38 => ?_)
          ·
            replace h38 := bI_0.1 h38
            have hrx := hC.room hD (by omega)
            refine gz_throw hls gt_H_hang_62 gd_H_hang_62 gd_H_hang_65 gd_H_hang_66 gd_H_hang_68 gd_H_hang_71 rfl (Nat.le_of_ble_eq_true rfl) (Nat.le_of_ble_eq_true rfl) (by omega) (by omega) ?_
            simp only [z_hang, eo, eu, if_neg h9, if_neg h14, if_neg (bf h38)] at kx
            exact kx _ _ _ _ _ _ _ (((((hC.alloc (fun j hj => gz_up_n hj) (by decide)).1).le (by omega)).code 3)) gz_up_s (by show ((3 : Int32), _) ∈ _; decide)
          ·
            replace h38 := bI_n.1 h38
            refine gz_aload_n gd_H_hang_41 rfl rfl (gz_isr.r _) ?_
            refine gq_getf (y := .ref (5)) gd_H_hang_42 gf_H_17 hC.1.house rfl rfl ?_
            refine gz_iload_n gd_H_hang_45 rfl rfl ?_
            refine rc_offs (o := u) gd_H_hang_46 hC (by omega) ?_
            refine gq_getf (y := .int (bI (T.up u))) gd_H_hang_47 gf_H_119 (hC.1.off u (by omega)) rfl rfl ?_
            refine gz_if_eq (tgt := 62) gd_H_hang_50 (by decide) (fun h50 => ?_) (fun h50 => ?_)
            ·
              replace h50 := bI_0.1 h50
              have hrx := hC.room hD (by omega)
              refine gz_throw hls gt_H_hang_62 gd_H_hang_62 gd_H_hang_65 gd_H_hang_66 gd_H_hang_68 gd_H_hang_71 rfl (Nat.le_of_ble_eq_true rfl) (Nat.le_of_ble_eq_true rfl) (by omega) (by omega) ?_
              simp only [z_hang, eo, eu, if_neg h9, if_neg h14, if_pos h38, if_neg (bf h50)] at kx
              exact kx _ _ _ _ _ _ _ (((((hC.alloc (fun j hj => gz_up_n hj) (by decide)).1).le (by omega)).code 3)) gz_up_s (by show ((3 : Int32), _) ∈ _; decide)
            ·
              replace h50 := bI_n.1 h50
              refine gz_aload_n gd_H_hang_53 rfl rfl (gz_isr.r _) ?_
              refine gz_iload_n gd_H_hang_54 rfl rfl ?_
              refine gz_iload_n gd_H_hang_55 rfl rfl ?_
              refine gz_virtual2 gd_H_hang_56 hC.1.house rfl rfl gs_H_hang_56 (Nat.le_of_ble_eq_true rfl) (Nat.le_of_ble_eq_true rfl) ?_
              refine h_inTree hC ho hu hB.w_code ?_
              rw [in_code]
              refine gz_if_eq (tgt := 72) gd_H_hang_59 (by decide) (fun h59 => ?_) (fun h59 => ?_)
              ·
                replace h59 := bI_0.1 h59
                refine gz_aload_n gd_H_hang_72 rfl rfl (gz_isr.r _) ?_
                refine gq_getf (y := .int (nI T.hg)) gd_H_hang_73 gf_H_129 hC.1.house rfl rfl ?_
                refine gz_bipush (v := 60) gd_H_hang_76 (by decide) ?_
                refine gz_icmp_lt (tgt := 91) gd_H_hang_78 (by decide) (fun h78 => ?_) (fun h78 => ?_)
                ·
                  replace h78 := (nI_ltI (a := T.hg) (b := 60) (by omega) (by omega)).1 h78
                  refine gz_aload_n gd_H_hang_91 rfl rfl (gz_isr.r _) ?_
                  refine gz_dup gd_H_hang_92 rfl ?_
                  refine gq_getf (y := .int (nI T.hg)) gd_H_hang_93 gf_H_129 hC.1.house rfl rfl ?_
                  refine gz_iconst (v := 1) gd_H_hang_96 (by decide) ?_
                  refine gq_iadd (z := nI (T.hg + 1)) gd_H_hang_97 (nI_add T.hg 1) ?_
                  refine rp_hg (x := T.hg + 1) gd_H_hang_98 gf_H_129 gr_H_hang_0_8 hC (fun M hC => ?_)
                  refine gz_aload_n gd_H_hang_101 rfl rfl (gz_isr.r _) ?_
                  refine gz_aload_n gd_H_hang_102 rfl rfl (gz_isr.r _) ?_
                  refine gz_virtual1 gd_H_hang_103 hC.1.house rfl rfl gs_H_hang_103 (Nat.le_of_ble_eq_true rfl) (Nat.le_of_ble_eq_true rfl) ?_
                  replace hC : RC M0 (b + 2) v g (((T.w_code 0).w_code 0).w_hg (T.hg + 1)) M n nc ns := by
                    rw [code_code]
                    exact hC.le (by omega)
                  have hJ : JI (((T.w_code 0).w_code 0).w_hg (T.hg + 1)) := (JI.code (v := 0) (JI.code (v := 0) hI)).w_hg (by omega)
                  have hPp : pot (((T.w_code 0).w_code 0).w_hg (T.hg + 1)) + 80 ≤ 9000 := by rw [pot_whg, pot_code, pot_code]; exact hP
                  refine h_awc hC hD (by omega) ho hJ (hTL.of rfl rfl) (by omega) (fun g1 M1 n1 nc1 ns1 hC => ?_)
                  rw [awc_eq (show (((T.w_code 0).w_code 0).w_hg (T.hg + 1)).par o ≠ some o from hns o ho)] at hC
                  have hA := away_J hJ ho (show pot (((T.w_code 0).w_code 0).w_hg (T.hg + 1)) + 40 ≤ 9000 by omega)
                  refine gz_aload_n gd_H_hang_106 rfl rfl (gz_isr.r _) ?_
                  refine gz_iload_n gd_H_hang_107 rfl rfl ?_
                  refine rp_par (x := some u) gd_H_hang_108 gf_H_138 gr_H_hang_3_6 hC (by omega) (fun M hC => ?_)
                  refine gz_aload_n gd_H_hang_111 rfl rfl (gz_isr.r _) ?_
                  refine gz_dup gd_H_hang_112 rfl ?_
                  refine gq_getf (y := .int ((((y_away (((T.w_code 0).w_code 0).w_hg (T.hg + 1)) o)).p_par o (some u)).ep o)) gd_H_hang_113 gf_H_141 (hC.1.off o (by omega)) rfl rfl ?_
                  refine gz_iconst (v := 1) gd_H_hang_116 (by decide) ?_
                  refine gq_iadd (z := ((y_away (((T.w_code 0).w_code 0).w_hg (T.hg + 1)) o).ep o + 1)) gd_H_hang_117 rfl ?_
                  refine rp_ep (x := ((y_away (((T.w_code 0).w_code 0).w_hg (T.hg + 1)) o).ep o + 1)) gd_H_hang_118 gf_H_141 gr_H_hang_3_7 hC (by omega) (fun M hC => ?_)
                  refine gz_iconst (v := 0) gd_H_hang_121 (by decide) ?_
                  refine gz_istore gd_H_hang_122 (Nat.le_of_ble_eq_true rfl) rfl ?_
                  replace hC : RC M0 (b + 82) v g1 (y_hg (((T.w_code 0).w_code 0).w_hg (T.hg + 1)) o u) M n1 nc1 ns1 := hC
                  obtain ⟨hHJ, hHJ2⟩ := hg_J (u := u) hJ ho hu hPp
                  have hHp : pot (y_hg (((T.w_code 0).w_code 0).w_hg (T.hg + 1)) o u) + 40 ≤ 9000 := by
                    have h1 : pot (y_hg (((T.w_code 0).w_code 0).w_hg (T.hg + 1)) o u) = pot (y_away (((T.w_code 0).w_code 0).w_hg (T.hg + 1)) o) := pot_hg
                    have h2 := pot_away hJ ho (show pot (((T.w_code 0).w_code 0).w_hg (T.hg + 1)) + 40 ≤ 9000 by omega)
                    omega
                  have loop : ∀ (j i : Nat), i + j = 40 → ∀ g M n nc ns, RC M0 (b + 82 + 2 * i) v g (y_tl (y_hg (((T.w_code 0).w_code 0).w_hg (T.hg + 1)) o u) o i) M n nc ns → GZ l P1 D F_H_hang K 124 [some (.ref 3), some (.int (nI o)), some (.int (nI u)), some (.ref (11 + 6 * o)), some (.int (nI i))] [] M n nc ns := by
                    intro j
                    induction j with
                    | zero =>
                      intro i hi g M n nc ns hC
                      obtain ⟨hG, hGp⟩ := tl_J hHJ ho hHp i (by omega)
                      obtain ⟨f1, f2⟩ := tl_fr (T := (y_hg (((T.w_code 0).w_code 0).w_hg (T.hg + 1)) o u)) (o := o) i
                      have hpo : (y_tl (y_hg (((T.w_code 0).w_code 0).w_hg (T.hg + 1)) o u) o i).par o = some u := by rw [f1]; exact hg_par
                      refine gz_iload gd_H_hang_124 rfl ?_
                      refine gz_bipush (v := 40) gd_H_hang_126 (by decide) ?_
                      refine gz_icmp_ge (tgt := 154) gd_H_hang_128 (by decide) (fun h128 => ?_) (fun h128 => ?_)
                      ·
                        replace h128 := (nI_leI (a := 40) (b := i) (by omega) (by omega)).1 h128
                        refine gz_aload_n gd_H_hang_154 rfl rfl (gz_isr.r _) ?_
                        refine gq_getf (y := .int ((y_tl (y_hg (((T.w_code 0).w_code 0).w_hg (T.hg + 1)) o u) o i).ep o)) gd_H_hang_155 gf_H_141 (hC.1.off o (by omega)) rfl rfl ?_
                        refine gz_ireturn gd_H_hang_158 rfl rfl ?_
                        have ei : i = 40 := by omega
                        rw [ei] at hC f2 ⊢
                        simp only [z_hang, eo, eu, if_neg h9, if_neg h14, if_pos h38, if_pos h50, if_neg (show ¬ y_und T o 13 (some u) = some true by rw [hU o u hu, show y_in T o 12 (some u) = false from h59]; exact fun e => by cases e), if_neg (show ¬ T.hg = 60 by omega)] at k
                        exact k _ _ _ _ _ _ (hC.le (by omega)) (by rw [hang_code]; rfl)
                      ·
                        replace h128 := mt (nI_leI (a := 40) (b := i) (by omega) (by omega)).2 h128
                        omega
                    | succ j ih =>
                      intro i hi g M n nc ns hC
                      obtain ⟨hG, hGp⟩ := tl_J hHJ ho hHp i (by omega)
                      obtain ⟨f1, f2⟩ := tl_fr (T := (y_hg (((T.w_code 0).w_code 0).w_hg (T.hg + 1)) o u)) (o := o) i
                      have hpo : (y_tl (y_hg (((T.w_code 0).w_code 0).w_hg (T.hg + 1)) o u) o i).par o = some u := by rw [f1]; exact hg_par
                      refine gz_iload gd_H_hang_124 rfl ?_
                      refine gz_bipush (v := 40) gd_H_hang_126 (by decide) ?_
                      refine gz_icmp_ge (tgt := 154) gd_H_hang_128 (by decide) (fun h128 => ?_) (fun h128 => ?_)
                      ·
                        replace h128 := (nI_leI (a := 40) (b := i) (by omega) (by omega)).1 h128
                        omega
                      ·
                        replace h128 := mt (nI_leI (a := 40) (b := i) (by omega) (by omega)).2 h128
                        refine gz_aload_n gd_H_hang_131 rfl rfl (gz_isr.r _) ?_
                        refine gq_getf (y := .ref (12 + 6 * o)) gd_H_hang_132 gf_H_144 (hC.1.off o (by omega)) rfl rfl ?_
                        refine gz_iload gd_H_hang_135 rfl ?_
                        refine rc_shown (o := o) (p := i) gd_H_hang_137 hC (by omega) (by omega) ?_
                        refine rc_nullV (tgt := 148) gd_H_hang_138 (by decide) (fun h138 => ?_) (fun h138 => ?_)
                        ·
                          try rw [vref_0 h138]
                          refine gz_iinc (v := nI (i + 1)) gd_H_hang_148 rfl (nI_1 i) (Nat.le_of_ble_eq_true rfl) rfl ?_
                          refine gz_goto (tgt := 124) gd_H_hang_151 (by decide) ?_
                          have e : y_tl (y_hg (((T.w_code 0).w_code 0).w_hg (T.hg + 1)) o u) o (i + 1) = (y_tl (y_hg (((T.w_code 0).w_code 0).w_hg (T.hg + 1)) o u) o i) := if_pos h138
                          rw [← e] at hC
                          exact ih (i + 1) (by omega) _ _ _ _ _ (hC.le (by omega))
                        ·
                          try rw [vref_s h138]
                          refine gz_aload_n gd_H_hang_141 rfl rfl (gz_isr.r _) ?_
                          refine gz_aload_n gd_H_hang_142 rfl rfl (gz_isr.r _) ?_
                          refine gz_iload gd_H_hang_143 rfl ?_
                          refine gz_virtual2 gd_H_hang_145 hC.1.house rfl rfl gs_H_hang_145 (Nat.le_of_ble_eq_true rfl) (Nat.le_of_ble_eq_true rfl) ?_
                          refine h_tell hC hD (by omega) ho (by omega) (fun j hj => hG.1.par o j ho hj) (JI.lroom (T := (y_tl (y_hg (((T.w_code 0).w_code 0).w_hg (T.hg + 1)) o u) o i)) (by omega) ho) (fun g1 M3 n1 nc1 ns1 hC => ?_)
                          refine gz_iinc (v := nI (i + 1)) gd_H_hang_148 rfl (nI_1 i) (Nat.le_of_ble_eq_true rfl) rfl ?_
                          refine gz_goto (tgt := 124) gd_H_hang_151 (by decide) ?_
                          have e : y_tl (y_hg (((T.w_code 0).w_code 0).w_hg (T.hg + 1)) o u) o (i + 1) = y_tell (y_tl (y_hg (((T.w_code 0).w_code 0).w_hg (T.hg + 1)) o u) o i) o i ((y_tl (y_hg (((T.w_code 0).w_code 0).w_hg (T.hg + 1)) o u) o i).shown o i) := if_neg h138
                          rw [tl1_s hpo, ← e] at hC
                          exact ih (i + 1) (by omega) _ _ _ _ _ hC
                  exact loop 40 0 (by omega) _ _ _ _ _ hC
                ·
                  replace h78 := mt (nI_ltI (a := T.hg) (b := 60) (by omega) (by omega)).2 h78
                  have hrx := hC.room hD (by omega)
                  refine gz_throw hls gt_H_hang_81 gd_H_hang_81 gd_H_hang_84 gd_H_hang_85 gd_H_hang_87 gd_H_hang_90 rfl (Nat.le_of_ble_eq_true rfl) (Nat.le_of_ble_eq_true rfl) (by omega) (by omega) ?_
                  simp only [z_hang, eo, eu, if_neg h9, if_neg h14, if_pos h38, if_pos h50, if_neg (show ¬ y_und T o 13 (some u) = some true by rw [hU o u hu, show y_in T o 12 (some u) = false from h59]; exact fun e => by cases e), if_pos (show T.hg = 60 by omega)] at kx
                  exact kx _ _ _ _ _ _ _ (((((hC.alloc (fun j hj => gz_up_n hj) (by decide)).1).le (by omega)).code 4)) gz_up_s (by show ((4 : Int32), _) ∈ _; decide)
              ·
                replace h59 := bI_n.1 h59
                have hrx := hC.room hD (by omega)
                refine gz_throw hls gt_H_hang_62 gd_H_hang_62 gd_H_hang_65 gd_H_hang_66 gd_H_hang_68 gd_H_hang_71 rfl (Nat.le_of_ble_eq_true rfl) (Nat.le_of_ble_eq_true rfl) (by omega) (by omega) ?_
                simp only [z_hang, eo, eu, if_neg h9, if_neg h14, if_pos h38, if_pos h50, if_pos (show y_und T o 13 (some u) = some true by rw [hU o u hu]; exact congrArg some h59)] at kx
                exact kx _ _ _ _ _ _ _ (((((hC.alloc (fun j hj => gz_up_n hj) (by decide)).1).le (by omega)).code 3)) gz_up_s (by show ((3 : Int32), _) ∈ _; decide)
        ·
          replace h14 := (nI_eq (a := o) (b := u) (by omega) (by omega)).1 h14
          have hrx := hC.room hD (by omega)
          refine gz_throw hls gt_H_hang_17 gd_H_hang_17 gd_H_hang_20 gd_H_hang_21 gd_H_hang_23 gd_H_hang_26 rfl (Nat.le_of_ble_eq_true rfl) (Nat.le_of_ble_eq_true rfl) (by omega) (by omega) ?_
          simp only [z_hang, eo, eu, if_neg h9, if_pos h14] at kx
          exact kx _ _ _ _ _ _ _ ((((hC.alloc (fun j hj => gz_up_n hj) (by decide)).1).le (by omega)).recode 2) gz_up_s (by show ((2 : Int32), _) ∈ _; decide)
    ·
      simp only [z_hang, eo, eu] at kx
      exact kx _ _ _ _ _ _ _ ((hC.le (by omega)).recode 1) hx (by show ((1 : Int32), _) ∈ _; decide)
  ·
    simp only [z_hang, eo] at kx
    exact kx _ _ _ _ _ _ _ ((hC.le (by omega)).recode 1) hx (by show ((1 : Int32), _) ∈ _; decide)

theorem rp_tkK {l : Launch} {D : gzD} {F : gzF} {K : gzK} {pc : Nat} {gl : List (Option Value)} {gst : List Value} {M : gzM} {n nc ns : Nat} {M0 : gzM} {b : Nat} {v : gV} {g : gG} {T : CT} {idx o x : Nat} (hd : decode F.2.1 pc = .ok (.putfield idx, 3)) (hf : gz_fl P1 F.1.cls idx 3 8) (hwr : gz_wr P1 F 3 8) (h : RC M0 b v g T M n nc ns) (ho : o < 12) (k : ∀ M', RC M0 b v g (T.p_tk o x) M' n nc ns → Keep M M' → GZ l P1 D F K (pc + 3) gl gst M' n nc ns) : GZ l P1 D F K pc gl (.int (nI x) :: .ref (11 + 6 * o) :: gst) M n nc ns :=
  gz_putf hd hf gc_3 hwr (h.1.off o ho) gz_fits.i (k _ (h.s_tk ho) ((h.2.1.fix h.1 (k := 11 + 6 * o) (by omega) (by omega) (fun j hj => gz_up_n hj)).2))
theorem take_code {T : CT} {o c p w : Nat} : (y_take T o c p w).code = T.code := by
  unfold y_take
  split
  · rw [try_code, y_unset_code]
    rfl
  · split
    · rw [y_set_code]
    · rfl
theorem h_deliver {l : Launch} {D : gzD} {K : gzK} {M : gzM} {n nc ns : Nat} {M0 : gzM} {b : Nat} {v : gV} {g : gG} {T : CT} (hC : RC M0 b v g T M n nc ns)(hD : RM D) (hb : b + 1000 ≤ 300000) (hls : l.stackTraces = false) {xi : Int32} (hI : JI T) (hTL : TL T) (hP : pot T < 9000) (hW : ∀ c, c < 12 → (T.wt c).length < 2000) (k : ∀ v g M n nc ns, RC M0 (b + 560) v g ((z_deliver T xi).2) M n nc ns → ((z_deliver T xi).2).code = 0 → K (.inl (some (.int (bI (z_deliver T xi).1)))) M n nc ns) (kx : ∀ e ci g M n nc ns, RC M0 (b + 560) v g ((z_deliver T xi).2) M n nc ns → M e = some (.inr (ci, [])) → (((z_deliver T xi).2).code, ci) ∈ ([(1, 8)] : List (Int32 × Nat)) → K (.inr e) M n nc ns) : GZ l P1 D F_H_deliver K 0 [some (.ref 3), some (.int xi), none, none, none] [] M n nc ns := by
  replace hC := hC.code 0
  refine gz_aload_n gd_H_deliver_0 rfl rfl (gz_isr.r _) ?_
  refine gz_iload_n gd_H_deliver_1 rfl rfl ?_
  refine gz_virtual1 gd_H_deliver_2 hC.1.house rfl rfl gs_H_deliver_2 (Nat.le_of_ble_eq_true rfl) (Nat.le_of_ble_eq_true rfl) ?_
  refine h_reqLetter hC hD (by omega) hls (fun i hi e0 => ?_) (fun ei ex M1 n1 nc1 ns1 hC hx => GT.out rfl ?_)
  ·
    subst e0
    have hcpl : T.post.length ≤ g.cap 0 ∧ g.cap 0 ≤ 760 := hC.2.1.capP
    replace hi : i < T.post.length := hi
    have ei := inR_s hi (show T.post.length < 2 ^ 31 by omega)
    refine gz_aload_n gd_H_deliver_5 rfl rfl (gz_isr.r _) ?_
    refine gq_getf (y := .ref (6)) gd_H_deliver_6 gf_H_24 hC.1.house rfl rfl ?_
    refine gz_iload_n gd_H_deliver_9 rfl rfl ?_
    obtain ⟨mcx, hLO⟩ := hC.1.loP
    refine gz_virtual1 gd_H_deliver_10 hLO rfl rfl gs_H_deliver_10 (Nat.le_of_ble_eq_true rfl) (Nat.le_of_ble_eq_true rfl) ?_
    obtain ⟨y, hy⟩ : ∃ y, T.post[i]? = some y := ⟨T.post[i]'hi, List.getElem?_eq_getElem hi⟩
    have hyb := hI.1.post y (List.mem_of_getElem? hy)
    have hvs := hI.1.vs
    refine rl_getP (T := T.w_code 0) (i := i) (y := y) hC hy (fun kk hkc => ?_)
    obtain ⟨c, hkk, hcc⟩ := hkc
    refine gz_cast gd_H_deliver_13 (ci := 2) rfl gw_504 hkk ?_
    refine gz_astore_n gd_H_deliver_16 rfl (Nat.le_of_ble_eq_true rfl) rfl (gz_isr.r _) ?_
    refine gz_aload_n gd_H_deliver_17 rfl rfl (gz_isr.r _) ?_
    refine gq_getf (y := .ref (6)) gd_H_deliver_18 gf_H_24 hC.1.house rfl rfl ?_
    refine gz_iload_n gd_H_deliver_21 rfl rfl ?_
    obtain ⟨mcx, hLO⟩ := hC.1.loP
    refine gz_virtual1 gd_H_deliver_22 hLO rfl rfl gs_H_deliver_22 (Nat.le_of_ble_eq_true rfl) (Nat.le_of_ble_eq_true rfl) ?_
    refine rl_remP (i := i) hC (by exact hi) (fun g1 M1 n1 nc1 ns1 z hz hC hK => ?_)
    replace hkk := hK _ 2 _ (Or.inr (Or.inl rfl)) hkk
    replace hcc := hK _ 1 _ (Or.inl rfl) hcc
    replace hC : RC M0 b v g1 (y_drop (T.w_code 0) i) M1 n1 nc1 ns1 := hC
    refine gz_pop gd_H_deliver_25 (by rcases hz with e | ⟨r, e⟩ <;> rw [e] <;> rfl) ?_
    refine gz_aload_n gd_H_deliver_26 rfl rfl (gz_isr.r _) ?_
    refine gq_getf (y := .ref (5)) gd_H_deliver_27 gf_H_17 hC.1.house rfl rfl ?_
    refine gz_aload_n gd_H_deliver_30 rfl rfl (gz_isr.r _) ?_
    refine gq_getf (y := .int (nI y.1)) gd_H_deliver_31 gf_H_194 hkk rfl rfl ?_
    have hy12 := hyb.1
    refine rc_offs (o := y.1) gd_H_deliver_34 hC (by omega) ?_
    refine gz_astore_n gd_H_deliver_35 rfl (Nat.le_of_ble_eq_true rfl) rfl (gz_isr.r _) ?_
    have hy12 := hyb.1
    refine gz_aload_n gd_H_deliver_36 rfl rfl (gz_isr.r _) ?_
    refine gq_getf (y := .int (oI ((y_drop (T.w_code 0) i).par y.1))) gd_H_deliver_37 gf_H_138 (hC.1.off y.1 (by omega)) rfl rfl ?_
    refine gz_iconst (v := -1) gd_H_deliver_40 (by decide) ?_
    refine gz_icmp_eq (tgt := 68) gd_H_deliver_41 (by decide) (fun h41 => ?_) (fun h41 => ?_)
    ·
      replace h41 := (oI_n1 (fun j hj => hI.1.par y.1 j hyb.1 hj)).1 h41
      refine gz_iconst (v := 0) gd_H_deliver_68 (by decide) ?_
      refine gz_ireturn gd_H_deliver_69 rfl rfl ?_
      simp only [z_deliver, ei, hy, h41] at k
      exact k _ _ _ _ _ _ (hC.le (by omega)) rfl
    ·
      replace h41 := mt (oI_n1 (fun j hj => hI.1.par y.1 j hyb.1 hj)).2 h41
      refine gz_aload_n gd_H_deliver_44 rfl rfl (gz_isr.r _) ?_
      refine gq_getf (y := .int ((y_drop (T.w_code 0) i).ep y.1)) gd_H_deliver_45 gf_H_141 (hC.1.off y.1 (by omega)) rfl rfl ?_
      refine gz_aload_n gd_H_deliver_48 rfl rfl (gz_isr.r _) ?_
      refine gq_getf (y := .int (y.2.1)) gd_H_deliver_49 gf_H_197 hkk rfl rfl ?_
      refine gz_icmp_ne (tgt := 68) gd_H_deliver_52 (by decide) (fun h52 => ?_) (fun h52 => ?_)
      ·
        replace h52 : ¬ T.ep y.1 = y.2.1 := h52
        refine gz_iconst (v := 0) gd_H_deliver_68 (by decide) ?_
        refine gz_ireturn gd_H_deliver_69 rfl rfl ?_
        obtain ⟨u, hu⟩ := Option.ne_none_iff_exists'.mp h41
        simp only [z_deliver, ei, hy, hu, if_neg h52] at k
        exact k _ _ _ _ _ _ (hC.le (by omega)) rfl
      ·
        replace h52 : T.ep y.1 = y.2.1 := h52
        refine gz_aload_n gd_H_deliver_55 rfl rfl (gz_isr.r _) ?_
        refine gq_getf (y := .int (nI ((y_drop (T.w_code 0) i).tk y.1))) gd_H_deliver_56 gf_H_198 (hC.1.off y.1 (by omega)) rfl rfl ?_
        refine gz_iconst (v := 1) gd_H_deliver_59 (by decide) ?_
        refine gq_iadd (z := nI (T.tk y.1 + 1)) gd_H_deliver_60 (nI_add (T.tk y.1) 1) ?_
        refine gz_aload_n gd_H_deliver_61 rfl rfl (gz_isr.r _) ?_
        refine gq_getf (y := .int (nI y.2.2.1)) gd_H_deliver_62 gf_H_201 hkk rfl rfl ?_
        refine gz_icmp_eq (tgt := 70) gd_H_deliver_65 (by decide) (fun h65 => ?_) (fun h65 => ?_)
        ·
          replace h65 := (nI_eq (a := T.tk y.1 + 1) (b := y.2.2.1) (by have := hI.1.tk y.1 hyb.1; omega) (by have := hI.1.tk y.1 hyb.1; omega)).1 h65
          obtain ⟨u, hu⟩ := Option.ne_none_iff_exists'.mp h41
          have hu2 := hI.1.par y.1 u hyb.1 hu
          have htk := hI.1.tk y.1 hyb.1
          have hJd : JI ((y_drop (T.w_code 0) i).p_tk y.1 (T.tk y.1 + 1)) := ((JI.code (v := 0) hI).drop).p_tk (by omega)
          have hPd : pot ((y_drop (T.w_code 0) i).p_tk y.1 (T.tk y.1 + 1)) < 9000 := by
            have h1 : pot ((y_drop (T.w_code 0) i).p_tk y.1 (T.tk y.1 + 1)) = pot T := by rw [pot_ptk, pot_drop, pot_code]
            omega
          refine gz_aload_n gd_H_deliver_70 rfl rfl (gz_isr.r _) ?_
          refine gz_dup gd_H_deliver_71 rfl ?_
          refine gq_getf (y := .int (nI ((y_drop (T.w_code 0) i).tk y.1))) gd_H_deliver_72 gf_H_198 (hC.1.off y.1 (by omega)) rfl rfl ?_
          refine gz_iconst (v := 1) gd_H_deliver_75 (by decide) ?_
          refine gq_iadd (z := nI (T.tk y.1 + 1)) gd_H_deliver_76 (nI_add (T.tk y.1) 1) ?_
          refine rp_tkK (x := T.tk y.1 + 1) gd_H_deliver_77 gf_H_198 gr_H_deliver_3_8 hC (by omega) (fun M hC hK => ?_)
          replace hkk := hK _ 2 _ (Or.inr (Or.inl rfl)) hkk
          replace hcc := hK _ 1 _ (Or.inl rfl) hcc
          refine gz_aload_n gd_H_deliver_80 rfl rfl (gz_isr.r _) ?_
          refine gq_getf (y := .ref (5)) gd_H_deliver_81 gf_H_17 hC.1.house rfl rfl ?_
          refine gz_aload_n gd_H_deliver_84 rfl rfl (gz_isr.r _) ?_
          replace hC : RC M0 b v g1 ((y_drop (T.w_code 0) i).p_tk y.1 (T.tk y.1 + 1)) M n1 nc1 ns1 := hC
          refine gq_getf (y := .int (nI u)) gd_H_deliver_85 gf_H_138 (hC.1.off y.1 (by omega)) rfl (by show Value.int (oI (T.par y.1)) = Value.int (nI u); rw [hu]; rfl) ?_
          refine rc_offs (o := u) gd_H_deliver_88 hC (by omega) ?_
          refine gz_astore gd_H_deliver_89 (Nat.le_of_ble_eq_true rfl) rfl (gz_isr.r _) ?_
          refine gz_aload_n gd_H_deliver_91 rfl rfl (gz_isr.r _) ?_
          refine gq_getf (y := .ref (c)) gd_H_deliver_92 gf_H_204 hkk rfl rfl ?_
          refine gq_getf (y := vref v y.2.2.2.2) gd_H_deliver_95 gf_H_208 hcc rfl rfl ?_
          refine rc_nonnullV (tgt := 118) gd_H_deliver_98 (by decide) (fun h98 => ?_) (fun h98 => ?_)
          ·
            try rw [vref_s h98]
            refine gz_aload_n gd_H_deliver_118 rfl rfl (gz_isr.r _) ?_
            refine gz_aload gd_H_deliver_119 rfl (gz_isr.r _) ?_
            refine gz_aload_n gd_H_deliver_121 rfl rfl (gz_isr.r _) ?_
            refine gz_aload_n gd_H_deliver_122 rfl rfl (gz_isr.r _) ?_
            refine gq_getf (y := .ref (c)) gd_H_deliver_123 gf_H_204 hkk rfl rfl ?_
            refine gz_virtual3 gd_H_deliver_126 hC.1.house rfl rfl gs_H_deliver_126 (Nat.le_of_ble_eq_true rfl) (Nat.le_of_ble_eq_true rfl) ?_
            refine h_takeIn hC hD (by omega) hu2 hyb.1 hcc hyb.2.2.2.1 h98 hyb.2.2.2.2 hJd.1 (JI.lroom (T := ((y_drop (T.w_code 0) i).p_tk y.1 (T.tk y.1 + 1))) hPd hu2) (hW y.1 hyb.1) (fun g2 M4 n2 nc2 ns2 hC => ?_)
            refine gz_iconst (v := 1) gd_H_deliver_129 (by decide) ?_
            refine gz_ireturn gd_H_deliver_130 rfl rfl ?_
            simp only [z_deliver, ei, hy, hu, if_pos h52, if_pos (show y.2.2.1 = T.tk y.1 + 1 from h65.symm)] at k
            exact k _ _ _ _ _ _ (hC.le (by omega)) (by rw [take_code]; rfl)
          ·
            try rw [vref_0 h98]
            refine gz_aload_n gd_H_deliver_101 rfl rfl (gz_isr.r _) ?_
            refine gz_aload gd_H_deliver_102 rfl (gz_isr.r _) ?_
            refine gz_aload_n gd_H_deliver_104 rfl rfl (gz_isr.r _) ?_
            refine gz_aload_n gd_H_deliver_105 rfl rfl (gz_isr.r _) ?_
            refine gq_getf (y := .ref (c)) gd_H_deliver_106 gf_H_204 hkk rfl rfl ?_
            refine gq_getf (y := .int (nI y.2.2.2.1)) gd_H_deliver_109 gf_H_213 hcc rfl rfl ?_
            refine gz_virtual3 gd_H_deliver_112 hC.1.house rfl rfl gs_H_deliver_112 (Nat.le_of_ble_eq_true rfl) (Nat.le_of_ble_eq_true rfl) ?_
            have hCk := hC
            replace hC : RC M0 (b + 2) v g1 ((y_drop (T.w_code 0) i).p_tk y.1 (T.tk y.1 + 1)) M n1 nc1 ns1 := hC.le (by omega)
            refine h_takeBack (p := y.2.2.2.1) hC hD (by omega) hu2 hyb.1 hyb.2.2.2.1 hJd (hTL.of rfl rfl) hPd (fun g2 M4 n2 nc2 ns2 hC => ?_)
            refine gz_goto (tgt := 129) gd_H_deliver_115 (by decide) ?_
            refine gz_iconst (v := 1) gd_H_deliver_129 (by decide) ?_
            refine gz_ireturn gd_H_deliver_130 rfl rfl ?_
            simp only [z_deliver, ei, hy, hu, if_pos h52, if_pos (show y.2.2.1 = T.tk y.1 + 1 from h65.symm)] at k
            rw [h98] at k
            exact k _ _ _ _ _ _ (hC.le (by omega)) (by rw [take_code]; rfl)
        ·
          replace h65 := mt (nI_eq (a := T.tk y.1 + 1) (b := y.2.2.1) (by have := hI.1.tk y.1 hyb.1; omega) (by have := hI.1.tk y.1 hyb.1; omega)).2 h65
          refine gz_iconst (v := 0) gd_H_deliver_68 (by decide) ?_
          refine gz_ireturn gd_H_deliver_69 rfl rfl ?_
          obtain ⟨u, hu⟩ := Option.ne_none_iff_exists'.mp h41
          simp only [z_deliver, ei, hy, hu, if_pos h52, if_neg (show ¬ y.2.2.1 = T.tk y.1 + 1 from fun e => h65 e.symm)] at k
          exact k _ _ _ _ _ _ (hC.le (by omega)) rfl
  ·
    replace ei : inR xi T.post.length = none := ei
    simp only [z_deliver, ei] at kx
    exact kx _ _ _ _ _ _ _ ((hC.le (by omega)).recode 1) hx (by show ((1 : Int32), _) ∈ _; decide)

