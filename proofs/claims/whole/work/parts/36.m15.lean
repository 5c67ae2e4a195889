/-! The reference: best. Printed by wip/whole/m15.py -/
def y_mine (ru : Int32) (S : gS) (L : gL) (a b : Nat) : Int64 := if ru = 2 then L 111 a else L 110 a * (1 + ((ru + 1) * S 112 b).toInt64)
def y_bs (ru : Int32) (S : gS) (L : gL) : Nat → Nat
  | 0 => 0
  | i + 1 => if lg_cmp (y_mine ru S L (i + 1) (y_bs ru S L i)) (y_mine ru S L (y_bs ru S L i) (i + 1)) ≤ 0 then y_bs ru S L i else i + 1
theorem bs_le {ru : Int32} {S : gS} {L : gL} : ∀ i, y_bs ru S L i ≤ i
  | 0 => Nat.le_refl _
  | i + 1 => by
    have := bs_le (ru := ru) (S := S) (L := L) i
    unfold y_bs
    split <;> omega
theorem m_best {l : Launch} {D : gzD} {K : gzK} {M : gzM} {n nc ns : Nat} {M0 : gzM} {S : gS} {L : gL} (hR : RF M0 S L M) {ru : Int32} (k : K (.inl (some (.int (nI (y_bs ru S L 5))))) M n nc ns) : GZ l P1 D F_M_best K 0 [some (.ref 83), some (.int ru), none, none, none, none, none, none] [] M n nc ns := by
  refine gz_iconst (v := 0) gd_M_best_0 (by decide) ?_
  refine gz_istore_n gd_M_best_1 rfl (Nat.le_of_ble_eq_true rfl) rfl ?_
  refine gz_iconst (v := 1) gd_M_best_2 (by decide) ?_
  refine gz_istore_n gd_M_best_3 rfl (Nat.le_of_ble_eq_true rfl) rfl ?_
  have loop : ∀ (j i : Nat), i + j = 5 → ∀ (b : Nat) (y4 y5 y6 y7 : Option Value), b = y_bs ru S L i → GZ l P1 D F_M_best K 4 [some (.ref 83), some (.int ru), some (.int (nI b)), some (.int (nI (i + 1))), y4, y5, y6, y7] [] M n nc ns := by
    intro j
    induction j with
    | zero =>
      intro i hi b y4 y5 y6 y7 hb
      have hbi : b ≤ i := by rw [hb]; exact bs_le i
      refine gz_iload_n gd_M_best_4 rfl rfl ?_
      refine gz_bipush (v := 6) gd_M_best_5 (by decide) ?_
      refine gz_icmp_ge (tgt := 102) gd_M_best_7 (by decide) (fun h7 => ?_) (fun h7 => ?_)
      ·
        replace h7 := (nI_leI (a := 6) (b := i + 1) (by omega) (by omega)).1 h7
        refine gz_iload_n gd_M_best_102 rfl rfl ?_
        refine gz_ireturn gd_M_best_103 rfl rfl ?_
        have e5 : i = 5 := by omega
        rw [e5] at hb
        rw [hb]
        exact k
      ·
        replace h7 := mt (nI_leI (a := 6) (b := i + 1) (by omega) (by omega)).2 h7
        omega
    | succ j ih =>
      intro i hi b y4 y5 y6 y7 hb
      have hbi : b ≤ i := by rw [hb]; exact bs_le i
      refine gz_iload_n gd_M_best_4 rfl rfl ?_
      refine gz_bipush (v := 6) gd_M_best_5 (by decide) ?_
      refine gz_icmp_ge (tgt := 102) gd_M_best_7 (by decide) (fun h7 => ?_) (fun h7 => ?_)
      ·
        replace h7 := (nI_leI (a := 6) (b := i + 1) (by omega) (by omega)).1 h7
        omega
      ·
        replace h7 := mt (nI_leI (a := 6) (b := i + 1) (by omega) (by omega)).2 h7
        refine gz_iload_n gd_M_best_10 rfl rfl ?_
        refine gz_iconst (v := 2) gd_M_best_11 (by decide) ?_
        refine gz_icmp_ne (tgt := 24) gd_M_best_12 (by decide) (fun h12 => ?_) (fun h12 => ?_)
        ·
          refine gz_aload_n gd_M_best_24 rfl rfl (gz_isr.r _) ?_
          refine md_getf gd_M_best_25 gf_M_90 hR rfl ?_
          refine gz_iload_n gd_M_best_28 rfl rfl ?_
          refine md_laload (a := 110) (i := i + 1) gd_M_best_29 hR (by decide) rfl (by omega) ?_
          refine gz_lconst (v := 1) gd_M_best_30 (by decide) ?_
          refine gz_iload_n gd_M_best_31 rfl rfl ?_
          refine gz_iconst (v := 1) gd_M_best_32 (by decide) ?_
          refine gq_iadd (z := (ru + 1)) gd_M_best_33 rfl ?_
          refine gz_aload_n gd_M_best_34 rfl rfl (gz_isr.r _) ?_
          refine md_getf gd_M_best_35 gf_M_97 hR rfl ?_
          refine gz_iload_n gd_M_best_38 rfl rfl ?_
          refine mt_iaload (a := 112) (i := b) gd_M_best_39 hR rfl rfl (show _ < 6 from (by omega)) (show _ = S 112 b from rfl) ?_
          refine gq_imul (z := ((ru + 1) * (S 112 b))) gd_M_best_40 rfl ?_
          refine gz_i2l gd_M_best_41 ?_
          refine gz_ladd gd_M_best_42 ?_
          refine gz_lmul gd_M_best_43 ?_
          refine gz_lstore gd_M_best_44 (Nat.le_of_ble_eq_true rfl) rfl ?_
          refine gz_iload_n gd_M_best_46 rfl rfl ?_
          refine gz_iconst (v := 2) gd_M_best_47 (by decide) ?_
          refine gz_icmp_ne (tgt := 60) gd_M_best_48 (by decide) (fun h48 => ?_) (fun h48 => ?_)
          ·
            refine gz_aload_n gd_M_best_60 rfl rfl (gz_isr.r _) ?_
            refine md_getf gd_M_best_61 gf_M_90 hR rfl ?_
            refine gz_iload_n gd_M_best_64 rfl rfl ?_
            refine md_laload (a := 110) (i := b) gd_M_best_65 hR (by decide) rfl (by omega) ?_
            refine gz_lconst (v := 1) gd_M_best_66 (by decide) ?_
            refine gz_iload_n gd_M_best_67 rfl rfl ?_
            refine gz_iconst (v := 1) gd_M_best_68 (by decide) ?_
            refine gq_iadd (z := (ru + 1)) gd_M_best_69 rfl ?_
            refine gz_aload_n gd_M_best_70 rfl rfl (gz_isr.r _) ?_
            refine md_getf gd_M_best_71 gf_M_97 hR rfl ?_
            refine gz_iload_n gd_M_best_74 rfl rfl ?_
            refine mt_iaload (a := 112) (i := i + 1) gd_M_best_75 hR rfl rfl (show _ < 6 from (by omega)) (show _ = S 112 (i + 1) from rfl) ?_
            refine gq_imul (z := ((ru + 1) * (S 112 (i + 1)))) gd_M_best_76 rfl ?_
            refine gz_i2l gd_M_best_77 ?_
            refine gz_ladd gd_M_best_78 ?_
            refine gz_lmul gd_M_best_79 ?_
            refine gz_lstore gd_M_best_80 (Nat.le_of_ble_eq_true rfl) trivial ?_
            refine gz_lload gd_M_best_82 rfl ?_
            refine gz_lload gd_M_best_84 rfl ?_
            refine gz_lcmp gd_M_best_86 ?_
            refine gz_if_le (tgt := 94) gd_M_best_87 (by decide) (fun h87 => ?_) (fun h87 => ?_)
            ·
              refine gz_iload_n gd_M_best_94 rfl rfl ?_
              refine gz_istore_n gd_M_best_95 rfl (Nat.le_of_ble_eq_true rfl) rfl ?_
              refine gz_iinc (v := nI (i + 1 + 1)) gd_M_best_96 rfl (nI_1 (i + 1)) (Nat.le_of_ble_eq_true rfl) rfl ?_
              refine gz_goto (tgt := 4) gd_M_best_99 (by decide) ?_
              have e1 : y_mine ru S L (i + 1) b = _ := if_neg h12
              have e2 : y_mine ru S L b (i + 1) = _ := if_neg h12
              rw [← e1, ← e2] at h87
              exact ih (i + 1) (by omega) _ _ _ _ _ (by show _ = if _ then _ else _; rw [← hb, if_pos h87])
            ·
              refine gz_iload_n gd_M_best_90 rfl rfl ?_
              refine gz_goto (tgt := 95) gd_M_best_91 (by decide) ?_
              refine gz_istore_n gd_M_best_95 rfl (Nat.le_of_ble_eq_true rfl) rfl ?_
              refine gz_iinc (v := nI (i + 1 + 1)) gd_M_best_96 rfl (nI_1 (i + 1)) (Nat.le_of_ble_eq_true rfl) rfl ?_
              refine gz_goto (tgt := 4) gd_M_best_99 (by decide) ?_
              have e1 : y_mine ru S L (i + 1) b = _ := if_neg h12
              have e2 : y_mine ru S L b (i + 1) = _ := if_neg h12
              rw [← e1, ← e2] at h87
              exact ih (i + 1) (by omega) _ _ _ _ _ (by show _ = if _ then _ else _; rw [← hb, if_neg h87])
          ·
            exact absurd h48 h12
        ·
          refine gz_aload_n gd_M_best_15 rfl rfl (gz_isr.r _) ?_
          refine md_getf gd_M_best_16 gf_M_94 hR rfl ?_
          refine gz_iload_n gd_M_best_19 rfl rfl ?_
          refine md_laload (a := 111) (i := i + 1) gd_M_best_20 hR (by decide) rfl (by omega) ?_
          refine gz_goto (tgt := 44) gd_M_best_21 (by decide) ?_
          refine gz_lstore gd_M_best_44 (Nat.le_of_ble_eq_true rfl) rfl ?_
          refine gz_iload_n gd_M_best_46 rfl rfl ?_
          refine gz_iconst (v := 2) gd_M_best_47 (by decide) ?_
          refine gz_icmp_ne (tgt := 60) gd_M_best_48 (by decide) (fun h48 => ?_) (fun h48 => ?_)
          ·
            exact absurd h12 h48
          ·
            refine gz_aload_n gd_M_best_51 rfl rfl (gz_isr.r _) ?_
            refine md_getf gd_M_best_52 gf_M_94 hR rfl ?_
            refine gz_iload_n gd_M_best_55 rfl rfl ?_
            refine md_laload (a := 111) (i := b) gd_M_best_56 hR (by decide) rfl (by omega) ?_
            refine gz_goto (tgt := 80) gd_M_best_57 (by decide) ?_
            refine gz_lstore gd_M_best_80 (Nat.le_of_ble_eq_true rfl) trivial ?_
            refine gz_lload gd_M_best_82 rfl ?_
            refine gz_lload gd_M_best_84 rfl ?_
            refine gz_lcmp gd_M_best_86 ?_
            refine gz_if_le (tgt := 94) gd_M_best_87 (by decide) (fun h87 => ?_) (fun h87 => ?_)
            ·
              refine gz_iload_n gd_M_best_94 rfl rfl ?_
              refine gz_istore_n gd_M_best_95 rfl (Nat.le_of_ble_eq_true rfl) rfl ?_
              refine gz_iinc (v := nI (i + 1 + 1)) gd_M_best_96 rfl (nI_1 (i + 1)) (Nat.le_of_ble_eq_true rfl) rfl ?_
              refine gz_goto (tgt := 4) gd_M_best_99 (by decide) ?_
              have e1 : y_mine ru S L (i + 1) b = _ := if_pos h12
              have e2 : y_mine ru S L b (i + 1) = _ := if_pos h12
              rw [← e1, ← e2] at h87
              exact ih (i + 1) (by omega) _ _ _ _ _ (by show _ = if _ then _ else _; rw [← hb, if_pos h87])
            ·
              refine gz_iload_n gd_M_best_90 rfl rfl ?_
              refine gz_goto (tgt := 95) gd_M_best_91 (by decide) ?_
              refine gz_istore_n gd_M_best_95 rfl (Nat.le_of_ble_eq_true rfl) rfl ?_
              refine gz_iinc (v := nI (i + 1 + 1)) gd_M_best_96 rfl (nI_1 (i + 1)) (Nat.le_of_ble_eq_true rfl) rfl ?_
              refine gz_goto (tgt := 4) gd_M_best_99 (by decide) ?_
              have e1 : y_mine ru S L (i + 1) b = _ := if_pos h12
              have e2 : y_mine ru S L b (i + 1) = _ := if_pos h12
              rw [← e1, ← e2] at h87
              exact ih (i + 1) (by omega) _ _ _ _ _ (by show _ = if _ then _ else _; rw [← hb, if_neg h87])
  exact loop 5 0 (by omega) 0 none none none none rfl
