/-! The reference: seats, its first loop. Printed by wip/whole/m21.py -/
def y_sA (L : gL) : Nat → Int64
  | 0 => 0
  | i + 1 => y_sA L i + L 110 i
theorem m_seats71 {l : Launch} {D : gzD} {K : gzK} {M : gzM} {n nc ns : Nat} {M0 : gzM} {S : gS} {L : gL} {T : CT} (hR : RF M0 S L M) (hT : Rel 12 true S T) {xo xn ru : Int32} {g : Nat} {al : Int64} (hal : y_sA L 6 = al) (k : ∀ S M, RF M0 S L M → Rel 12 true S T → (∀ z, z < 6 → S 112 z = 0) → GZ l P1 D F_M_seats K 104 [some (.ref 83), some (.int xo), some (.int xn), some (.int ru), some (.int (nI g)), some (.long al), none, some (.int (nI 6)), none] [] M n nc ns) : GZ l P1 D F_M_seats K 71 [some (.ref 83), some (.int xo), some (.int xn), some (.int ru), some (.int (nI g)), some (.long (y_sA L 0)), none, some (.int (nI 0)), none] [] M n nc ns := by
  have loop : ∀ (j i : Nat), i + j = 6 → ∀ S M, RF M0 S L M → Rel 12 true S T → (∀ z, z < i → S 112 z = 0) → GZ l P1 D F_M_seats K 71 [some (.ref 83), some (.int xo), some (.int xn), some (.int ru), some (.int (nI g)), some (.long (y_sA L i)), none, some (.int (nI i)), none] [] M n nc ns := by
    intro j
    induction j with
    | zero =>
      intro i hi S M hR hT h0
      refine gz_iload gd_M_seats_71 rfl ?_
      refine gz_bipush (v := 6) gd_M_seats_73 (by decide) ?_
      refine gz_icmp_ge (tgt := 104) gd_M_seats_75 (by decide) (fun h75 => ?_) (fun h75 => ?_)
      ·
        replace h75 := (nI_leI (a := 6) (b := i) (by omega) (by omega)).1 h75
        have e6 : i = 6 := by omega
        rw [e6] at h0 ⊢
        rw [hal]
        exact k _ _ hR hT h0
      ·
        replace h75 := mt (nI_leI (a := 6) (b := i) (by omega) (by omega)).2 h75
        omega
    | succ j ih =>
      intro i hi S M hR hT h0
      refine gz_iload gd_M_seats_71 rfl ?_
      refine gz_bipush (v := 6) gd_M_seats_73 (by decide) ?_
      refine gz_icmp_ge (tgt := 104) gd_M_seats_75 (by decide) (fun h75 => ?_) (fun h75 => ?_)
      ·
        replace h75 := (nI_leI (a := 6) (b := i) (by omega) (by omega)).1 h75
        omega
      ·
        replace h75 := mt (nI_leI (a := 6) (b := i) (by omega) (by omega)).2 h75
        refine gz_lload gd_M_seats_78 rfl ?_
        refine gz_aload_n gd_M_seats_80 rfl rfl (gz_isr.r _) ?_
        refine md_getf gd_M_seats_81 gf_M_90 hR rfl ?_
        refine gz_iload gd_M_seats_84 rfl ?_
        refine md_laload (a := 110) (i := i) gd_M_seats_86 hR (by decide) rfl (by omega) ?_
        refine gz_ladd gd_M_seats_87 ?_
        refine gz_lstore gd_M_seats_88 (Nat.le_of_ble_eq_true rfl) rfl ?_
        refine gz_aload_n gd_M_seats_90 rfl rfl (gz_isr.r _) ?_
        refine md_getf gd_M_seats_91 gf_M_97 hR rfl ?_
        refine gz_iload gd_M_seats_94 rfl ?_
        refine gz_iconst (v := 0) gd_M_seats_96 (by decide) ?_
        refine md_iastore (a := 112) (i := i) gd_M_seats_97 hR rfl rfl rfl (show _ < 6 from (by omega)) (fun M hR => ?_)
        refine gz_iinc (v := nI (i + 1)) gd_M_seats_98 rfl (nI_1 i) (Nat.le_of_ble_eq_true rfl) trivial ?_
        refine gz_goto (tgt := 71) gd_M_seats_101 (by decide) ?_
        exact ih (i + 1) (by omega) _ _ hR hT.s_got (fun z hz => by
          by_cases e : z = i
          · rw [e, gs_same]
          · rw [gs_ne (fun y => e y.2)]
            exact h0 z (by omega))
  exact loop 6 0 (by omega) _ _ hR hT (fun z hz => absurd hz (Nat.not_lt_zero _))

