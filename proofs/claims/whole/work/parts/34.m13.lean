/-! The reference: sums. Printed by wip/whole/m13.py -/
def y_cnt (T : CT) (o : Nat) (th : Option Nat) (i : Nat) : Bool := decide (¬ T.shown o i = 0) && (decide (th = none) || decide (T.src o i = th))
def y_sum (T : CT) (o : Nat) (th : Option Nat) (g : Nat) : Nat → Int64
  | 0 => 0
  | i + 1 => if y_cnt T o th i = true then y_sum T o th g i + (T.vote (T.shown o i) g).toInt64 else y_sum T o th g i
theorem gl_same {L : gL} {k i : Nat} {v : Int64} : gl_set L k i v k i = v := by simp [gl_set]
theorem gl_ne {L : gL} {k i j : Nat} {v : Int64} (h : j ≠ i) : gl_set L k i v k j = L k j := by simp [gl_set, h]
theorem oI_inj {a b : Option Nat} (ha : ∀ j, a = some j → j < 12) (hb : ∀ j, b = some j → j < 12) (h : oI a = oI b) : a = b := by
  cases b with
  | none => exact (oI_n1 ha).1 h
  | some j => exact (oI_eq ha (hb j rfl)).1 h
theorem m_sumUp {l : Launch} {D : gzD} {K : gzK} {M : gzM} {n nc ns : Nat} {M0 : gzM} {S : gS} {L : gL} {T : CT} (hR : RF M0 S L M) (hT : Rel 12 true S T) {o : Nat} {th : Option Nat} (ho : o < 12) (hth : ∀ j, th = some j → j < 12) (hB : Bd T) (k : ∀ L M, RF M0 S L M → (∀ g, g < 6 → L 110 g = y_sum T o th g 40) → K (.inl none) M n nc ns) : GZ l P1 D F_M_sumUp K 0 [some (.ref 83), some (.int (nI o)), some (.int (oI th)), none, none, none, none] [] M n nc ns := by
  refine gz_iconst (v := 0) gd_M_sumUp_0 (by decide) ?_
  refine gz_istore_n gd_M_sumUp_1 rfl (Nat.le_of_ble_eq_true rfl) rfl ?_
  have loop1 : ∀ (j i : Nat), i + j = 6 → ∀ L M, RF M0 S L M → (∀ g, g < i → L 110 g = 0) → GZ l P1 D F_M_sumUp K 2 [some (.ref 83), some (.int (nI o)), some (.int (oI th)), some (.int (nI i)), none, none, none] [] M n nc ns := by
    intro j
    induction j with
    | zero =>
      intro i hi L M hR h0
      refine gz_iload_n gd_M_sumUp_2 rfl rfl ?_
      refine gz_bipush (v := 6) gd_M_sumUp_3 (by decide) ?_
      refine gz_icmp_ge (tgt := 21) gd_M_sumUp_5 (by decide) (fun h5 => ?_) (fun h5 => ?_)
      ·
        replace h5 := (nI_leI (a := 6) (b := i) (by omega) (by omega)).1 h5
        refine gz_iconst (v := 0) gd_M_sumUp_21 (by decide) ?_
        refine gz_istore_n gd_M_sumUp_22 rfl (Nat.le_of_ble_eq_true rfl) rfl ?_
        have e6 : i = 6 := by omega
        rw [e6] at h0
        have loop2 : ∀ (j i : Nat), i + j = 40 → ∀ (y4 y5 y6 : Option Value) L M, RF M0 S L M → (∀ g, g < 6 → L 110 g = y_sum T o th g i) → GZ l P1 D F_M_sumUp K 23 [some (.ref 83), some (.int (nI o)), some (.int (oI th)), some (.int (nI i)), y4, y5, y6] [] M n nc ns := by
          intro j
          induction j with
          | zero =>
            intro i hi y4 y5 y6 L M hR h0
            refine gz_iload_n gd_M_sumUp_23 rfl rfl ?_
            refine gz_bipush (v := 40) gd_M_sumUp_24 (by decide) ?_
            refine gz_icmp_ge (tgt := 125) gd_M_sumUp_26 (by decide) (fun h26 => ?_) (fun h26 => ?_)
            ·
              replace h26 := (nI_leI (a := 40) (b := i) (by omega) (by omega)).1 h26
              refine gz_return gd_M_sumUp_125 rfl ?_
              have e40 : i = 40 := by omega
              rw [e40] at h0
              exact k _ _ hR h0
            ·
              replace h26 := mt (nI_leI (a := 40) (b := i) (by omega) (by omega)).2 h26
              omega
          | succ j ih =>
            intro i hi y4 y5 y6 L M hR h0
            refine gz_iload_n gd_M_sumUp_23 rfl rfl ?_
            refine gz_bipush (v := 40) gd_M_sumUp_24 (by decide) ?_
            refine gz_icmp_ge (tgt := 125) gd_M_sumUp_26 (by decide) (fun h26 => ?_) (fun h26 => ?_)
            ·
              replace h26 := (nI_leI (a := 40) (b := i) (by omega) (by omega)).1 h26
              omega
            ·
              replace h26 := mt (nI_leI (a := 40) (b := i) (by omega) (by omega)).2 h26
              refine gz_bipush (v := 40) gd_M_sumUp_29 (by decide) ?_
              refine gz_iload_n gd_M_sumUp_31 rfl rfl ?_
              refine gq_imul (z := nI (40 * o)) gd_M_sumUp_32 (pk_mul 40 o) ?_
              refine gz_iload_n gd_M_sumUp_33 rfl rfl ?_
              refine gq_iadd (z := nI (40 * o + i)) gd_M_sumUp_34 (nI_add (40 * o) i) ?_
              refine gz_istore gd_M_sumUp_35 (Nat.le_of_ble_eq_true rfl) rfl ?_
              refine gz_aload_n gd_M_sumUp_37 rfl rfl (gz_isr.r _) ?_
              refine md_getf gd_M_sumUp_38 gf_M_44 hR rfl ?_
              refine gz_iload gd_M_sumUp_41 rfl ?_
              refine mt_iaload (a := 95) (i := 40 * o + i) gd_M_sumUp_43 hR rfl rfl (show _ < 480 from (by omega)) (hT.shown o i (by omega) (by omega)) ?_
              refine gz_if_le (tgt := 66) gd_M_sumUp_44 (by decide) (fun h44 => ?_) (fun h44 => ?_)
              ·
                replace h44 := (nI_le0 (by have := hB.shown o i ho (by omega); have := hB.vs; omega)).1 h44
                refine gz_iconst (v := 0) gd_M_sumUp_66 (by decide) ?_
                refine gz_istore gd_M_sumUp_67 (Nat.le_of_ble_eq_true rfl) rfl ?_
                refine gz_iconst (v := 0) gd_M_sumUp_69 (by decide) ?_
                refine gz_istore gd_M_sumUp_70 (Nat.le_of_ble_eq_true rfl) rfl ?_
                have hb : y_cnt T o th i = false := by simp [y_cnt, h44]
                refine gz_iload gd_M_sumUp_72 rfl ?_
                refine gz_bipush (v := 6) gd_M_sumUp_74 (by decide) ?_
                refine gz_icmp_ge (tgt := 119) gd_M_sumUp_76 (by decide) (fun h76 => ?_) (fun h76 => ?_)
                ·
                  replace h76 := (nI_leI (a := 6) (b := 0) (by omega) (by omega)).1 h76
                  refine gz_iinc (v := nI (i + 1)) gd_M_sumUp_119 rfl (nI_1 i) (Nat.le_of_ble_eq_true rfl) rfl ?_
                  refine gz_goto (tgt := 23) gd_M_sumUp_122 (by decide) ?_
                  exact ih (i + 1) (by omega) _ _ _ _ _ hR (fun g hg => by rw [h0 g hg]; show _ = if y_cnt T o th i = true then _ else _; rw [if_neg (bf hb)])
                ·
                  replace h76 := mt (nI_leI (a := 6) (b := 0) (by omega) (by omega)).2 h76
                  refine gz_iload gd_M_sumUp_79 rfl ?_
                  refine gz_if_eq (tgt := 119) gd_M_sumUp_81 (by decide) (fun h81 => ?_) (fun h81 => ?_)
                  ·
                    refine gz_iinc (v := nI (i + 1)) gd_M_sumUp_119 rfl (nI_1 i) (Nat.le_of_ble_eq_true rfl) rfl ?_
                    refine gz_goto (tgt := 23) gd_M_sumUp_122 (by decide) ?_
                    exact ih (i + 1) (by omega) _ _ _ _ _ hR (fun g hg => by rw [h0 g hg]; show _ = if y_cnt T o th i = true then _ else _; rw [if_neg (bf hb)])
                  ·
                    exact absurd h81 (by decide)
              ·
                replace h44 := mt (nI_le0 (by have := hB.shown o i ho (by omega); have := hB.vs; omega)).2 h44
                refine gz_iload_n gd_M_sumUp_47 rfl rfl ?_
                refine gz_if_lt (tgt := 62) gd_M_sumUp_48 (by decide) (fun h48 => ?_) (fun h48 => ?_)
                ·
                  replace h48 := (oI_lt hth).1 h48
                  refine gz_iconst (v := 1) gd_M_sumUp_62 (by decide) ?_
                  refine gz_goto (tgt := 67) gd_M_sumUp_63 (by decide) ?_
                  refine gz_istore gd_M_sumUp_67 (Nat.le_of_ble_eq_true rfl) rfl ?_
                  refine gz_iconst (v := 0) gd_M_sumUp_69 (by decide) ?_
                  refine gz_istore gd_M_sumUp_70 (Nat.le_of_ble_eq_true rfl) rfl ?_
                  have hb : y_cnt T o th i = true := by simp [y_cnt, h44, h48]
                  have loop3 : ∀ (r q : Nat), q + r = 6 → ∀ L M, RF M0 S L M → (∀ g, g < q → g < 6 → L 110 g = y_sum T o th g (i + 1)) → (∀ g, q ≤ g → g < 6 → L 110 g = y_sum T o th g i) → GZ l P1 D F_M_sumUp K 72 [some (.ref 83), some (.int (nI o)), some (.int (oI th)), some (.int (nI i)), some (.int (nI (40 * o + i))), some (.int 1), some (.int (nI q))] [] M n nc ns := by
                    intro r
                    induction r with
                    | zero =>
                      intro q hq L M hR h1 h2
                      refine gz_iload gd_M_sumUp_72 rfl ?_
                      refine gz_bipush (v := 6) gd_M_sumUp_74 (by decide) ?_
                      refine gz_icmp_ge (tgt := 119) gd_M_sumUp_76 (by decide) (fun h76 => ?_) (fun h76 => ?_)
                      ·
                        replace h76 := (nI_leI (a := 6) (b := q) (by omega) (by omega)).1 h76
                        refine gz_iinc (v := nI (i + 1)) gd_M_sumUp_119 rfl (nI_1 i) (Nat.le_of_ble_eq_true rfl) rfl ?_
                        refine gz_goto (tgt := 23) gd_M_sumUp_122 (by decide) ?_
                        exact ih (i + 1) (by omega) _ _ _ _ _ hR (fun g hg => h1 g (by omega) hg)
                      ·
                        replace h76 := mt (nI_leI (a := 6) (b := q) (by omega) (by omega)).2 h76
                        omega
                    | succ r ihr =>
                      intro q hq L M hR h1 h2
                      refine gz_iload gd_M_sumUp_72 rfl ?_
                      refine gz_bipush (v := 6) gd_M_sumUp_74 (by decide) ?_
                      refine gz_icmp_ge (tgt := 119) gd_M_sumUp_76 (by decide) (fun h76 => ?_) (fun h76 => ?_)
                      ·
                        replace h76 := (nI_leI (a := 6) (b := q) (by omega) (by omega)).1 h76
                        omega
                      ·
                        replace h76 := mt (nI_leI (a := 6) (b := q) (by omega) (by omega)).2 h76
                        refine gz_iload gd_M_sumUp_79 rfl ?_
                        refine gz_if_eq (tgt := 119) gd_M_sumUp_81 (by decide) (fun h81 => ?_) (fun h81 => ?_)
                        ·
                          exact absurd h81 (by decide)
                        ·
                          refine gz_aload_n gd_M_sumUp_84 rfl rfl (gz_isr.r _) ?_
                          refine md_getf gd_M_sumUp_85 gf_M_90 hR rfl ?_
                          refine gz_iload gd_M_sumUp_88 rfl ?_
                          refine gz_dup2 gd_M_sumUp_90 rfl rfl ?_
                          refine md_laload (a := 110) (i := q) gd_M_sumUp_91 hR (by decide) rfl (by omega) ?_
                          refine gz_aload_n gd_M_sumUp_92 rfl rfl (gz_isr.r _) ?_
                          refine md_getf gd_M_sumUp_93 gf_M_26 hR rfl ?_
                          refine gz_bipush (v := 6) gd_M_sumUp_96 (by decide) ?_
                          refine gz_aload_n gd_M_sumUp_98 rfl rfl (gz_isr.r _) ?_
                          refine md_getf gd_M_sumUp_99 gf_M_44 hR rfl ?_
                          refine gz_iload gd_M_sumUp_102 rfl ?_
                          refine mt_iaload (a := 95) (i := 40 * o + i) gd_M_sumUp_104 hR rfl rfl (show _ < 480 from (by omega)) (hT.shown o i (by omega) (by omega)) ?_
                          refine gq_imul (z := nI (6 * (T.shown o i))) gd_M_sumUp_105 (pk_mul 6 (T.shown o i)) ?_
                          refine gz_iload gd_M_sumUp_106 rfl ?_
                          refine gq_iadd (z := nI (6 * (T.shown o i) + q)) gd_M_sumUp_108 (nI_add (6 * (T.shown o i)) q) ?_
                          have hs := hB.shown o i ho (by omega)
                          have := hB.vs
                          refine mt_iaload (a := 89) (i := 6 * (T.shown o i) + q) gd_M_sumUp_109 hR rfl rfl (show _ < 1806 from (by omega)) (hT.vote (T.shown o i) q (by omega) (by omega)) ?_
                          refine gz_i2l gd_M_sumUp_110 ?_
                          refine gz_ladd gd_M_sumUp_111 ?_
                          refine md_lastore (a := 110) (i := q) gd_M_sumUp_112 hR (by decide) rfl (by omega) (fun M hR => ?_)
                          refine gz_iinc (v := nI (q + 1)) gd_M_sumUp_113 rfl (nI_1 q) (Nat.le_of_ble_eq_true rfl) rfl ?_
                          refine gz_goto (tgt := 72) gd_M_sumUp_116 (by decide) ?_
                          exact ihr (q + 1) (by omega) _ _ hR (fun g hg hg6 => by
                            by_cases e : g = q
                            · rw [e, gl_same, h2 q (Nat.le_refl _) (by omega)]
                              show _ = if y_cnt T o th i = true then _ else _
                              rw [if_pos hb]
                            · rw [gl_ne e]
                              exact h1 g (by omega) hg6) (fun g hg hg6 => by
                            rw [gl_ne (by omega)]
                            exact h2 g (by omega) hg6)
                  exact loop3 6 0 (by omega) _ _ hR (fun g hg => absurd hg (Nat.not_lt_zero _)) (fun g _ hg => h0 g hg)
                ·
                  replace h48 := mt (oI_lt hth).2 h48
                  refine gz_aload_n gd_M_sumUp_51 rfl rfl (gz_isr.r _) ?_
                  refine md_getf gd_M_sumUp_52 gf_M_47 hR rfl ?_
                  refine gz_iload gd_M_sumUp_55 rfl ?_
                  refine mt_iaload (a := 96) (i := 40 * o + i) gd_M_sumUp_57 hR rfl rfl (show _ < 480 from (by omega)) (hT.src o i (by omega) (by omega)) ?_
                  refine gz_iload_n gd_M_sumUp_58 rfl rfl ?_
                  refine gz_icmp_ne (tgt := 66) gd_M_sumUp_59 (by decide) (fun h59 => ?_) (fun h59 => ?_)
                  ·
                    replace h59 : ¬ T.src o i = th := fun e => h59 (by rw [e])
                    refine gz_iconst (v := 0) gd_M_sumUp_66 (by decide) ?_
                    refine gz_istore gd_M_sumUp_67 (Nat.le_of_ble_eq_true rfl) rfl ?_
                    refine gz_iconst (v := 0) gd_M_sumUp_69 (by decide) ?_
                    refine gz_istore gd_M_sumUp_70 (Nat.le_of_ble_eq_true rfl) rfl ?_
                    have hb : y_cnt T o th i = false := by simp [y_cnt, h48, h59]
                    refine gz_iload gd_M_sumUp_72 rfl ?_
                    refine gz_bipush (v := 6) gd_M_sumUp_74 (by decide) ?_
                    refine gz_icmp_ge (tgt := 119) gd_M_sumUp_76 (by decide) (fun h76 => ?_) (fun h76 => ?_)
                    ·
                      replace h76 := (nI_leI (a := 6) (b := 0) (by omega) (by omega)).1 h76
                      refine gz_iinc (v := nI (i + 1)) gd_M_sumUp_119 rfl (nI_1 i) (Nat.le_of_ble_eq_true rfl) rfl ?_
                      refine gz_goto (tgt := 23) gd_M_sumUp_122 (by decide) ?_
                      exact ih (i + 1) (by omega) _ _ _ _ _ hR (fun g hg => by rw [h0 g hg]; show _ = if y_cnt T o th i = true then _ else _; rw [if_neg (bf hb)])
                    ·
                      replace h76 := mt (nI_leI (a := 6) (b := 0) (by omega) (by omega)).2 h76
                      refine gz_iload gd_M_sumUp_79 rfl ?_
                      refine gz_if_eq (tgt := 119) gd_M_sumUp_81 (by decide) (fun h81 => ?_) (fun h81 => ?_)
                      ·
                        refine gz_iinc (v := nI (i + 1)) gd_M_sumUp_119 rfl (nI_1 i) (Nat.le_of_ble_eq_true rfl) rfl ?_
                        refine gz_goto (tgt := 23) gd_M_sumUp_122 (by decide) ?_
                        exact ih (i + 1) (by omega) _ _ _ _ _ hR (fun g hg => by rw [h0 g hg]; show _ = if y_cnt T o th i = true then _ else _; rw [if_neg (bf hb)])
                      ·
                        exact absurd h81 (by decide)
                  ·
                    replace h59 : T.src o i = th := oI_inj (fun j hj => hB.src o i j ho (by omega) hj) hth h59
                    refine gz_iconst (v := 1) gd_M_sumUp_62 (by decide) ?_
                    refine gz_goto (tgt := 67) gd_M_sumUp_63 (by decide) ?_
                    refine gz_istore gd_M_sumUp_67 (Nat.le_of_ble_eq_true rfl) rfl ?_
                    refine gz_iconst (v := 0) gd_M_sumUp_69 (by decide) ?_
                    refine gz_istore gd_M_sumUp_70 (Nat.le_of_ble_eq_true rfl) rfl ?_
                    have hb : y_cnt T o th i = true := by simp [y_cnt, h44, h59]
                    have loop3 : ∀ (r q : Nat), q + r = 6 → ∀ L M, RF M0 S L M → (∀ g, g < q → g < 6 → L 110 g = y_sum T o th g (i + 1)) → (∀ g, q ≤ g → g < 6 → L 110 g = y_sum T o th g i) → GZ l P1 D F_M_sumUp K 72 [some (.ref 83), some (.int (nI o)), some (.int (oI th)), some (.int (nI i)), some (.int (nI (40 * o + i))), some (.int 1), some (.int (nI q))] [] M n nc ns := by
                      intro r
                      induction r with
                      | zero =>
                        intro q hq L M hR h1 h2
                        refine gz_iload gd_M_sumUp_72 rfl ?_
                        refine gz_bipush (v := 6) gd_M_sumUp_74 (by decide) ?_
                        refine gz_icmp_ge (tgt := 119) gd_M_sumUp_76 (by decide) (fun h76 => ?_) (fun h76 => ?_)
                        ·
                          replace h76 := (nI_leI (a := 6) (b := q) (by omega) (by omega)).1 h76
                          refine gz_iinc (v := nI (i + 1)) gd_M_sumUp_119 rfl (nI_1 i) (Nat.le_of_ble_eq_true rfl) rfl ?_
                          refine gz_goto (tgt := 23) gd_M_sumUp_122 (by decide) ?_
                          exact ih (i + 1) (by omega) _ _ _ _ _ hR (fun g hg => h1 g (by omega) hg)
                        ·
                          replace h76 := mt (nI_leI (a := 6) (b := q) (by omega) (by omega)).2 h76
                          omega
                      | succ r ihr =>
                        intro q hq L M hR h1 h2
                        refine gz_iload gd_M_sumUp_72 rfl ?_
                        refine gz_bipush (v := 6) gd_M_sumUp_74 (by decide) ?_
                        refine gz_icmp_ge (tgt := 119) gd_M_sumUp_76 (by decide) (fun h76 => ?_) (fun h76 => ?_)
                        ·
                          replace h76 := (nI_leI (a := 6) (b := q) (by omega) (by omega)).1 h76
                          omega
                        ·
                          replace h76 := mt (nI_leI (a := 6) (b := q) (by omega) (by omega)).2 h76
                          refine gz_iload gd_M_sumUp_79 rfl ?_
                          refine gz_if_eq (tgt := 119) gd_M_sumUp_81 (by decide) (fun h81 => ?_) (fun h81 => ?_)
                          ·
                            exact absurd h81 (by decide)
                          ·
                            refine gz_aload_n gd_M_sumUp_84 rfl rfl (gz_isr.r _) ?_
                            refine md_getf gd_M_sumUp_85 gf_M_90 hR rfl ?_
                            refine gz_iload gd_M_sumUp_88 rfl ?_
                            refine gz_dup2 gd_M_sumUp_90 rfl rfl ?_
                            refine md_laload (a := 110) (i := q) gd_M_sumUp_91 hR (by decide) rfl (by omega) ?_
                            refine gz_aload_n gd_M_sumUp_92 rfl rfl (gz_isr.r _) ?_
                            refine md_getf gd_M_sumUp_93 gf_M_26 hR rfl ?_
                            refine gz_bipush (v := 6) gd_M_sumUp_96 (by decide) ?_
                            refine gz_aload_n gd_M_sumUp_98 rfl rfl (gz_isr.r _) ?_
                            refine md_getf gd_M_sumUp_99 gf_M_44 hR rfl ?_
                            refine gz_iload gd_M_sumUp_102 rfl ?_
                            refine mt_iaload (a := 95) (i := 40 * o + i) gd_M_sumUp_104 hR rfl rfl (show _ < 480 from (by omega)) (hT.shown o i (by omega) (by omega)) ?_
                            refine gq_imul (z := nI (6 * (T.shown o i))) gd_M_sumUp_105 (pk_mul 6 (T.shown o i)) ?_
                            refine gz_iload gd_M_sumUp_106 rfl ?_
                            refine gq_iadd (z := nI (6 * (T.shown o i) + q)) gd_M_sumUp_108 (nI_add (6 * (T.shown o i)) q) ?_
                            have hs := hB.shown o i ho (by omega)
                            have := hB.vs
                            refine mt_iaload (a := 89) (i := 6 * (T.shown o i) + q) gd_M_sumUp_109 hR rfl rfl (show _ < 1806 from (by omega)) (hT.vote (T.shown o i) q (by omega) (by omega)) ?_
                            refine gz_i2l gd_M_sumUp_110 ?_
                            refine gz_ladd gd_M_sumUp_111 ?_
                            refine md_lastore (a := 110) (i := q) gd_M_sumUp_112 hR (by decide) rfl (by omega) (fun M hR => ?_)
                            refine gz_iinc (v := nI (q + 1)) gd_M_sumUp_113 rfl (nI_1 q) (Nat.le_of_ble_eq_true rfl) rfl ?_
                            refine gz_goto (tgt := 72) gd_M_sumUp_116 (by decide) ?_
                            exact ihr (q + 1) (by omega) _ _ hR (fun g hg hg6 => by
                              by_cases e : g = q
                              · rw [e, gl_same, h2 q (Nat.le_refl _) (by omega)]
                                show _ = if y_cnt T o th i = true then _ else _
                                rw [if_pos hb]
                              · rw [gl_ne e]
                                exact h1 g (by omega) hg6) (fun g hg hg6 => by
                              rw [gl_ne (by omega)]
                              exact h2 g (by omega) hg6)
                    exact loop3 6 0 (by omega) _ _ hR (fun g hg => absurd hg (Nat.not_lt_zero _)) (fun g _ hg => h0 g hg)
        exact loop2 40 0 (by omega) none none none _ _ hR h0
      ·
        replace h5 := mt (nI_leI (a := 6) (b := i) (by omega) (by omega)).2 h5
        omega
    | succ j ih =>
      intro i hi L M hR h0
      refine gz_iload_n gd_M_sumUp_2 rfl rfl ?_
      refine gz_bipush (v := 6) gd_M_sumUp_3 (by decide) ?_
      refine gz_icmp_ge (tgt := 21) gd_M_sumUp_5 (by decide) (fun h5 => ?_) (fun h5 => ?_)
      ·
        replace h5 := (nI_leI (a := 6) (b := i) (by omega) (by omega)).1 h5
        omega
      ·
        replace h5 := mt (nI_leI (a := 6) (b := i) (by omega) (by omega)).2 h5
        refine gz_aload_n gd_M_sumUp_8 rfl rfl (gz_isr.r _) ?_
        refine md_getf gd_M_sumUp_9 gf_M_90 hR rfl ?_
        refine gz_iload_n gd_M_sumUp_12 rfl rfl ?_
        refine gz_lconst (v := 0) gd_M_sumUp_13 (by decide) ?_
        refine md_lastore (a := 110) (i := i) gd_M_sumUp_14 hR (by decide) rfl (by omega) (fun M hR => ?_)
        refine gz_iinc (v := nI (i + 1)) gd_M_sumUp_15 rfl (nI_1 i) (Nat.le_of_ble_eq_true rfl) rfl ?_
        refine gz_goto (tgt := 2) gd_M_sumUp_18 (by decide) ?_
        exact ih (i + 1) (by omega) _ _ hR (fun g hg => by
          by_cases e : g = i
          · rw [e, gl_same]
          · rw [gl_ne e]
            exact h0 g (by omega))
  exact loop1 6 0 (by omega) _ _ hR (fun g hg => absurd hg (Nat.not_lt_zero _))
