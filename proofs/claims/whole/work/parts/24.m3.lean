/-! The reference: inner methods with loops. Printed by wip/whole/m3.py -/
theorem m_setsFirst {l : Launch} {D : gzD} {K : gzK} {M : gzM} {n nc ns : Nat} {M0 : gzM} {S : gS} {L : gL} {T : CT} (hR : RF M0 S L M) (hT : Rel 12 true S T) (hB : Bd T) {o c : Nat} (ho : o < 12) (hc : c < 12) (hL : 0 < (T.wt c).length → (T.line o).length < 9000) (k0 : y_first T o c = none → ∀ S M, RF M0 S L M → Rel 12 true S T → K (.inl (some (.int 0))) M n nc ns) (k1 : ∀ T', y_first T o c = some T' → ∀ S M, RF M0 S L M → Rel 12 true S T' → K (.inl (some (.int 1))) M n nc ns) : GZ l P1 D F_M_setsFirst K 0 [some (.ref 83), some (.int (nI o)), some (.int (nI c)), none, none, none, none] [] M n nc ns := by
  cases hw : T.wt c with
  | nil =>
    refine gz_sipush (v := 2000) gd_M_setsFirst_0 (by decide) ?_
    refine gz_iload_n gd_M_setsFirst_3 rfl rfl ?_
    refine gq_imul (z := nI (2000 * c)) gd_M_setsFirst_4 (pk_mul 2000 c) ?_
    refine gz_istore_n gd_M_setsFirst_5 rfl (Nat.le_of_ble_eq_true rfl) rfl ?_
    refine gz_aload_n gd_M_setsFirst_6 rfl rfl (gz_isr.r _) ?_
    refine md_getf gd_M_setsFirst_7 gf_M_66 hR rfl ?_
    refine gz_iload_n gd_M_setsFirst_10 rfl rfl ?_
    refine mt_iaload (a := 102) (i := c) gd_M_setsFirst_11 hR rfl rfl (show _ < 12 from (by omega)) (show _ = (0 : Int32) from by rw [hT.wtN c hc (by omega), hw]; rfl) ?_
    refine gz_if_eq (tgt := 30) gd_M_setsFirst_12 (by decide) (fun h12 => ?_) (fun h12 => ?_)
    ·
      refine gz_iconst (v := 0) gd_M_setsFirst_30 (by decide) ?_
      refine gz_ireturn gd_M_setsFirst_31 rfl rfl ?_
      exact k0 (by unfold y_first; rw [hw]) _ _ hR hT
    ·
      exact absurd h12 (by decide)
  | cons x xs =>
    have hq := hB.wtN c hc
    rw [hw] at hq
    simp only [List.length_cons] at hq
    obtain ⟨hx1, hx2, hx3⟩ := hB.wt c x hc (by rw [hw]; exact List.mem_cons_self)
    replace hx3 : x.2 ≤ 300 := Nat.le_trans hx3 hB.vs
    replace hL := hL (by rw [hw]; exact Nat.succ_pos _)
    have hP : ∀ i, T.par o = some i → i < 12 := fun i hi => hB.par o i ho hi
    have hN := hB.postN
    refine gz_sipush (v := 2000) gd_M_setsFirst_0 (by decide) ?_
    refine gz_iload_n gd_M_setsFirst_3 rfl rfl ?_
    refine gq_imul (z := nI (2000 * c)) gd_M_setsFirst_4 (pk_mul 2000 c) ?_
    refine gz_istore_n gd_M_setsFirst_5 rfl (Nat.le_of_ble_eq_true rfl) rfl ?_
    refine gz_aload_n gd_M_setsFirst_6 rfl rfl (gz_isr.r _) ?_
    refine md_getf gd_M_setsFirst_7 gf_M_66 hR rfl ?_
    refine gz_iload_n gd_M_setsFirst_10 rfl rfl ?_
    refine mt_iaload (a := 102) (i := c) gd_M_setsFirst_11 hR rfl rfl (show _ < 12 from (by omega)) (show _ = nI (xs.length + 1) from by rw [hT.wtN c hc (by omega), hw]; rfl) ?_
    refine gz_if_eq (tgt := 30) gd_M_setsFirst_12 (by decide) (fun h12 => ?_) (fun h12 => ?_)
    ·
      replace h12 := (nI_z (by omega)).1 h12
      omega
    ·
      replace h12 := mt (nI_z (by omega)).2 h12
      refine gz_aload_n gd_M_setsFirst_15 rfl rfl (gz_isr.r _) ?_
      refine gz_iload_n gd_M_setsFirst_16 rfl rfl ?_
      refine gz_aload_n gd_M_setsFirst_17 rfl rfl (gz_isr.r _) ?_
      refine md_getf gd_M_setsFirst_18 gf_M_69 hR rfl ?_
      refine gz_iload_n gd_M_setsFirst_21 rfl rfl ?_
      refine mt_iaload (a := 103) (i := 2000 * c) gd_M_setsFirst_22 hR rfl rfl (show _ < 24000 from (by omega)) (hT.wt c 0 x hc (by omega) (by omega) (by rw [hw]; rfl)).1 ?_
      refine gz_iload_n gd_M_setsFirst_23 rfl rfl ?_
      refine gz_virtual3 gd_M_setsFirst_24 hR.1 rfl rfl gs_M_setsFirst_24 (Nat.le_of_ble_eq_true rfl) (Nat.le_of_ble_eq_true rfl) ?_
      refine m_maySet hR hT (by omega) (by omega) (by omega) (by have := hB.shown o x.1 ho hx1; have := hB.vs; omega) (fun i hi => hB.src o x.1 i ho hx1 hi) ?_
      refine gz_if_ne (tgt := 32) gd_M_setsFirst_27 (by decide) (fun h27 => ?_) (fun h27 => ?_)
      ·
        replace h27 := bI_n.1 h27
        refine gz_aload_n gd_M_setsFirst_32 rfl rfl (gz_isr.r _) ?_
        refine md_getf gd_M_setsFirst_33 gf_M_69 hR rfl ?_
        refine gz_iload_n gd_M_setsFirst_36 rfl rfl ?_
        refine mt_iaload (a := 103) (i := 2000 * c) gd_M_setsFirst_37 hR rfl rfl (show _ < 24000 from (by omega)) (hT.wt c 0 x hc (by omega) (by omega) (by rw [hw]; rfl)).1 ?_
        refine gz_istore gd_M_setsFirst_38 (Nat.le_of_ble_eq_true rfl) rfl ?_
        refine gz_aload_n gd_M_setsFirst_40 rfl rfl (gz_isr.r _) ?_
        refine md_getf gd_M_setsFirst_41 gf_M_72 hR rfl ?_
        refine gz_iload_n gd_M_setsFirst_44 rfl rfl ?_
        refine mt_iaload (a := 104) (i := 2000 * c) gd_M_setsFirst_45 hR rfl rfl (show _ < 24000 from (by omega)) (hT.wt c 0 x hc (by omega) (by omega) (by rw [hw]; rfl)).2 ?_
        refine gz_istore gd_M_setsFirst_46 (Nat.le_of_ble_eq_true rfl) rfl ?_
        refine gz_aload_n gd_M_setsFirst_48 rfl rfl (gz_isr.r _) ?_
        refine md_getf gd_M_setsFirst_49 gf_M_66 hR rfl ?_
        refine gz_iload_n gd_M_setsFirst_52 rfl rfl ?_
        refine gz_dup2 gd_M_setsFirst_53 rfl rfl ?_
        refine mt_iaload (a := 102) (i := c) gd_M_setsFirst_54 hR rfl rfl (show _ < 12 from (by omega)) (show _ = nI (xs.length + 1) from by rw [hT.wtN c hc (by omega), hw]; rfl) ?_
        refine gz_iconst (v := 1) gd_M_setsFirst_55 (by decide) ?_
        refine gq_isub (z := nI xs.length) gd_M_setsFirst_56 (nI_pred xs.length) ?_
        refine md_iastore (a := 102) (i := c) gd_M_setsFirst_57 hR rfl rfl rfl (show _ < 12 from (by omega)) (fun M hR => ?_)
        refine gz_iload_n gd_M_setsFirst_58 rfl rfl ?_
        refine gz_istore gd_M_setsFirst_59 (Nat.le_of_ble_eq_true rfl) rfl ?_
        have loop : ∀ (j i : Nat), i + j = xs.length → ∀ S M, RF M0 S L M → Rel c true S T → S 102 c = nI xs.length → (∀ q y, q < i → xs[q]? = some y → S 103 (2000 * c + q) = nI y.1 ∧ S 104 (2000 * c + q) = nI y.2) → (∀ q y, i ≤ q → xs[q]? = some y → S 103 (2000 * c + q + 1) = nI y.1 ∧ S 104 (2000 * c + q + 1) = nI y.2) → GZ l P1 D F_M_setsFirst K 61 [some (.ref 83), some (.int (nI o)), some (.int (nI c)), some (.int (nI (2000 * c))), some (.int (nI x.1)), some (.int (nI x.2)), some (.int (nI (2000 * c + i)))] [] M n nc ns := by
          intro j
          induction j with
          | zero =>
            intro i hi S M hR hT hz h1 h2
            refine gz_iload gd_M_setsFirst_61 rfl ?_
            refine gz_iload_n gd_M_setsFirst_63 rfl rfl ?_
            refine gz_aload_n gd_M_setsFirst_64 rfl rfl (gz_isr.r _) ?_
            refine md_getf gd_M_setsFirst_65 gf_M_66 hR rfl ?_
            refine gz_iload_n gd_M_setsFirst_68 rfl rfl ?_
            refine mt_iaload (a := 102) (i := c) gd_M_setsFirst_69 hR rfl rfl (show _ < 12 from (by omega)) hz ?_
            refine gq_iadd (z := nI (2000 * c + xs.length)) gd_M_setsFirst_70 (nI_add (2000 * c) xs.length) ?_
            refine gz_icmp_ge (tgt := 112) gd_M_setsFirst_71 (by decide) (fun h71 => ?_) (fun h71 => ?_)
            ·
              replace h71 := (nI_leI (a := 2000 * c + xs.length) (b := 2000 * c + i) (by omega) (by omega)).1 h71
              refine gz_aload_n gd_M_setsFirst_112 rfl rfl (gz_isr.r _) ?_
              refine gz_iload_n gd_M_setsFirst_113 rfl rfl ?_
              refine gz_iload gd_M_setsFirst_114 rfl ?_
              refine gz_iload gd_M_setsFirst_116 rfl ?_
              refine gz_iload_n gd_M_setsFirst_118 rfl rfl ?_
              refine gz_virtual4 gd_M_setsFirst_119 hR.1 rfl rfl gs_M_setsFirst_119 (Nat.le_of_ble_eq_true rfl) (Nat.le_of_ble_eq_true rfl) ?_
              replace hT := hT.r_wt hz (fun q z _ hz2 => h1 q z (by have := (List.getElem?_eq_some_iff.1 hz2).1; omega) hz2)
              refine m_set (T := T.w_wt (ct1 T.wt c xs)) (o := o) (p := x.1) (v := x.2) (s := some c) hR hT (by omega) hx1 hx3 (fun z => by omega) (fun _ => rfl) hP hL hN (fun S M hR hT => ?_)
              refine gz_iconst (v := 1) gd_M_setsFirst_122 (by decide) ?_
              refine gz_ireturn gd_M_setsFirst_123 rfl rfl ?_
              exact k1 _ (by unfold y_first; rw [hw]; exact if_pos h27) _ _ hR hT
            ·
              replace h71 := mt (nI_leI (a := 2000 * c + xs.length) (b := 2000 * c + i) (by omega) (by omega)).2 h71
              omega
          | succ j ih =>
            intro i hi S M hR hT hz h1 h2
            refine gz_iload gd_M_setsFirst_61 rfl ?_
            refine gz_iload_n gd_M_setsFirst_63 rfl rfl ?_
            refine gz_aload_n gd_M_setsFirst_64 rfl rfl (gz_isr.r _) ?_
            refine md_getf gd_M_setsFirst_65 gf_M_66 hR rfl ?_
            refine gz_iload_n gd_M_setsFirst_68 rfl rfl ?_
            refine mt_iaload (a := 102) (i := c) gd_M_setsFirst_69 hR rfl rfl (show _ < 12 from (by omega)) hz ?_
            refine gq_iadd (z := nI (2000 * c + xs.length)) gd_M_setsFirst_70 (nI_add (2000 * c) xs.length) ?_
            refine gz_icmp_ge (tgt := 112) gd_M_setsFirst_71 (by decide) (fun h71 => ?_) (fun h71 => ?_)
            ·
              replace h71 := (nI_leI (a := 2000 * c + xs.length) (b := 2000 * c + i) (by omega) (by omega)).1 h71
              omega
            ·
              replace h71 := mt (nI_leI (a := 2000 * c + xs.length) (b := 2000 * c + i) (by omega) (by omega)).2 h71
              have hib : i < xs.length := by omega
              obtain ⟨y, hy⟩ : ∃ y, xs[i]? = some y := ⟨xs[i], List.getElem?_eq_getElem hib⟩
              refine gz_aload_n gd_M_setsFirst_74 rfl rfl (gz_isr.r _) ?_
              refine md_getf gd_M_setsFirst_75 gf_M_69 hR rfl ?_
              refine gz_iload gd_M_setsFirst_78 rfl ?_
              refine gz_aload_n gd_M_setsFirst_80 rfl rfl (gz_isr.r _) ?_
              refine md_getf gd_M_setsFirst_81 gf_M_69 hR rfl ?_
              refine gz_iload gd_M_setsFirst_84 rfl ?_
              refine gz_iconst (v := 1) gd_M_setsFirst_86 (by decide) ?_
              refine gq_iadd (z := nI (2000 * c + i + 1)) gd_M_setsFirst_87 (nI_add (2000 * c + i) 1) ?_
              refine mt_iaload (a := 103) (i := 2000 * c + i + 1) gd_M_setsFirst_88 hR rfl rfl (show _ < 24000 from (by omega)) (h2 i y (Nat.le_refl _) hy).1 ?_
              refine md_iastore (a := 103) (i := 2000 * c + i) gd_M_setsFirst_89 hR rfl rfl rfl (show _ < 24000 from (by omega)) (fun M hR => ?_)
              refine gz_aload_n gd_M_setsFirst_90 rfl rfl (gz_isr.r _) ?_
              refine md_getf gd_M_setsFirst_91 gf_M_72 hR rfl ?_
              refine gz_iload gd_M_setsFirst_94 rfl ?_
              refine gz_aload_n gd_M_setsFirst_96 rfl rfl (gz_isr.r _) ?_
              refine md_getf gd_M_setsFirst_97 gf_M_72 hR rfl ?_
              refine gz_iload gd_M_setsFirst_100 rfl ?_
              refine gz_iconst (v := 1) gd_M_setsFirst_102 (by decide) ?_
              refine gq_iadd (z := nI (2000 * c + i + 1)) gd_M_setsFirst_103 (nI_add (2000 * c + i) 1) ?_
              refine mt_iaload (a := 104) (i := 2000 * c + i + 1) gd_M_setsFirst_104 hR rfl rfl (show _ < 24000 from (by omega)) (h2 i y (Nat.le_refl _) hy).2 ?_
              refine md_iastore (a := 104) (i := 2000 * c + i) gd_M_setsFirst_105 hR rfl rfl rfl (show _ < 24000 from (by omega)) (fun M hR => ?_)
              refine gz_iinc (v := nI (2000 * c + i + 1)) gd_M_setsFirst_106 rfl (nI_1 (2000 * c + i)) (Nat.le_of_ble_eq_true rfl) rfl ?_
              refine gz_goto (tgt := 61) gd_M_setsFirst_109 (by decide) ?_
              exact ih (i + 1) (by omega) _ _ hR (Rel.j_wtV (Rel.j_wtP hT (by omega)) (by omega)) hz (fun q z hq hz' => by
                by_cases e : q = i
                · subst e
                  rw [hy] at hz'
                  cases hz'
                  simp [gs_set]
                · have := h1 q z (by omega) hz'
                  simpa [gs_set, e] using this) (fun q z hq hz' => by
                have := h2 q z (by omega) hz'
                have e : ¬ 2000 * c + q + 1 = 2000 * c + i := by omega
                simpa [gs_set, e] using this)
        exact loop xs.length 0 (by omega) _ _ hR (Rel.j_wtN (Rel.x_wt (c := c) hT)) gs_same (fun q y hq => absurd hq (Nat.not_lt_zero _)) (fun q y _ hy => by
          have hq := (List.getElem?_eq_some_iff.1 hy).1
          exact hT.wt c (q + 1) y hc (by omega) (by omega) (by rw [hw]; exact hy))
      ·
        replace h27 := bI_0.1 h27
        refine gz_iconst (v := 0) gd_M_setsFirst_30 (by decide) ?_
        refine gz_ireturn gd_M_setsFirst_31 rfl rfl ?_
        exact k0 (by unfold y_first; rw [hw]; exact if_neg (by rw [h27]; exact Bool.false_ne_true)) _ _ hR hT

theorem wh_s {o c q : Nat} {U V : CT} {m : Bool} (hf : y_first U o c = some V) : y_wh o c (q + 1) U m = y_wh o c q V true := by
  rw [y_wh, hf]
theorem wh_n {o c q : Nat} {U : CT} {m : Bool} (hf : y_first U o c = none) : y_wh o c q U m = (U, m) := by
  cases q with
  | zero => rfl
  | succ q => rw [y_wh, hf]
theorem m_tryAll {l : Launch} {D : gzD} {K : gzK} {M : gzM} {n nc ns : Nat} {M0 : gzM} {S : gS} {L : gL} {T : CT} (hR : RF M0 S L M) (hT : Rel 12 true S T) {o : Nat} (ho : o < 12) (hI : JI T) (k : ∀ S M, RF M0 S L M → Rel 12 true S (y_try T o) → K (.inl none) M n nc ns) : GZ l P1 D F_M_tryAll K 0 [some (.ref 83), some (.int (nI o)), none, none] [] M n nc ns := by
  refine gz_iconst (v := 1) gd_M_tryAll_0 (by decide) ?_
  refine gz_istore_n gd_M_tryAll_1 rfl (Nat.le_of_ble_eq_true rfl) rfl ?_
  have outer : ∀ (w : Nat) (T : CT) (m : Bool) (y3 : Option Value), (m = true → y_waits T o < w) → JI T → (∀ S M, RF M0 S L M → Rel 12 true S (if m = true then y_try T o else T) → K (.inl none) M n nc ns) → ∀ S M, RF M0 S L M → Rel 12 true S T → GZ l P1 D F_M_tryAll K 2 [some (.ref 83), some (.int (nI o)), some (.int (bI m)), y3] [] M n nc ns := by
    intro w
    induction w with
    | zero =>
      intro T m y3 hm hI k S M hR hT
      refine gz_iload_n gd_M_tryAll_2 rfl rfl ?_
      refine gz_if_eq (tgt := 88) gd_M_tryAll_3 (by decide) (fun h3 => ?_) (fun h3 => ?_)
      ·
        replace h3 := bI_0.1 h3
        refine gz_return gd_M_tryAll_88 rfl ?_
        exact k _ _ hR (by rw [h3]; exact hT)
      ·
        replace h3 := bI_n.1 h3
        exact absurd (hm h3) (Nat.not_lt_zero _)
    | succ w ihw =>
      intro T m y3 hm hI k S M hR hT
      refine gz_iload_n gd_M_tryAll_2 rfl rfl ?_
      refine gz_if_eq (tgt := 88) gd_M_tryAll_3 (by decide) (fun h3 => ?_) (fun h3 => ?_)
      ·
        replace h3 := bI_0.1 h3
        refine gz_return gd_M_tryAll_88 rfl ?_
        exact k _ _ hR (by rw [h3]; exact hT)
      ·
        replace h3 := bI_n.1 h3
        have hD := rd_J hI ho
        refine gz_iconst (v := 0) gd_M_tryAll_6 (by decide) ?_
        refine gz_istore_n gd_M_tryAll_7 rfl (Nat.le_of_ble_eq_true rfl) rfl ?_
        refine gz_iconst (v := 0) gd_M_tryAll_8 (by decide) ?_
        refine gz_istore_n gd_M_tryAll_9 rfl (Nat.le_of_ble_eq_true rfl) rfl ?_
        have loop1 : ∀ (j i : Nat), i + j = 40 → ∀ S M, RF M0 S L M → Rel 12 true S (y_r1 T o i).1 → GZ l P1 D F_M_tryAll K 10 [some (.ref 83), some (.int (nI o)), some (.int (bI (y_r1 T o i).2)), some (.int (nI i))] [] M n nc ns := by
          intro j
          induction j with
          | zero =>
            intro i hi S M hR hT
            refine gz_iload_n gd_M_tryAll_10 rfl rfl ?_
            refine gz_bipush (v := 40) gd_M_tryAll_11 (by decide) ?_
            refine gz_icmp_ge (tgt := 47) gd_M_tryAll_13 (by decide) (fun h13 => ?_) (fun h13 => ?_)
            ·
              replace h13 := (nI_leI (a := 40) (b := i) (by omega) (by omega)).1 h13
              refine gz_iconst (v := 0) gd_M_tryAll_47 (by decide) ?_
              refine gz_istore_n gd_M_tryAll_48 rfl (Nat.le_of_ble_eq_true rfl) rfl ?_
              obtain rfl : i = 40 := by omega
              have loop2 : ∀ (j i : Nat), i + j = 12 → ∀ S M, RF M0 S L M → Rel 12 true S (y_r2 (y_r1 T o 40) o i).1 → GZ l P1 D F_M_tryAll K 49 [some (.ref 83), some (.int (nI o)), some (.int (bI (y_r2 (y_r1 T o 40) o i).2)), some (.int (nI i))] [] M n nc ns := by
                intro j
                induction j with
                | zero =>
                  intro i hi S M hR hT
                  obtain ⟨hJ, _, hpp⟩ := r2_J (r1_J hI ho 40 (Nat.le_refl _)).1 ho i (by omega)
                  have hB := hJ.1
                  refine gz_iload_n gd_M_tryAll_49 rfl rfl ?_
                  refine gz_bipush (v := 12) gd_M_tryAll_50 (by decide) ?_
                  refine gz_icmp_ge (tgt := 85) gd_M_tryAll_52 (by decide) (fun h52 => ?_) (fun h52 => ?_)
                  ·
                    replace h52 := (nI_leI (a := 12) (b := i) (by omega) (by omega)).1 h52
                    obtain rfl : i = 12 := by omega
                    refine gz_goto (tgt := 2) gd_M_tryAll_85 (by decide) ?_
                    refine ihw (y_rd T o).1 (y_rd T o).2 _ (fun e => ?_) hD.1 (fun S M hR hT => k S M hR (by rw [if_pos h3, try_step ho hI]; exact hT)) _ _ hR hT
                    have := hD.2.1
                    have := hm h3
                    rw [e] at *
                    have e1 : bN true = 1 := rfl
                    omega
                  ·
                    replace h52 := mt (nI_leI (a := 12) (b := i) (by omega) (by omega)).2 h52
                    omega
                | succ j ih =>
                  intro i hi S M hR hT
                  obtain ⟨hJ, _, hpp⟩ := r2_J (r1_J hI ho 40 (Nat.le_refl _)).1 ho i (by omega)
                  have hB := hJ.1
                  refine gz_iload_n gd_M_tryAll_49 rfl rfl ?_
                  refine gz_bipush (v := 12) gd_M_tryAll_50 (by decide) ?_
                  refine gz_icmp_ge (tgt := 85) gd_M_tryAll_52 (by decide) (fun h52 => ?_) (fun h52 => ?_)
                  ·
                    replace h52 := (nI_leI (a := 12) (b := i) (by omega) (by omega)).1 h52
                    omega
                  ·
                    replace h52 := mt (nI_leI (a := 12) (b := i) (by omega) (by omega)).2 h52
                    by_cases hpo : (y_r2 (y_r1 T o 40) o i).1.par i = some o
                    ·
                      have e : y_r2 (y_r1 T o 40) o (i + 1) = y_wh o i ((y_r2 (y_r1 T o 40) o i).1.wt i).length (y_r2 (y_r1 T o 40) o i).1 (y_r2 (y_r1 T o 40) o i).2 := if_pos hpo
                      have loop3 : ∀ (q : Nat) (U : CT) (m2 : Bool), (U.wt i).length = q → JI U → U.par i = some o → ∀ S M, RF M0 S L M → Rel 12 true S U → y_wh o i q U m2 = y_r2 (y_r1 T o 40) o (i + 1) → GZ l P1 D F_M_tryAll K 55 [some (.ref 83), some (.int (nI o)), some (.int (bI m2)), some (.int (nI i))] [] M n nc ns := by
                        intro q
                        induction q with
                        | zero =>
                          intro U m2 hq hJ hpo S M hR hT he
                          have hB := hJ.1
                          refine gz_aload_n gd_M_tryAll_55 rfl rfl (gz_isr.r _) ?_
                          refine md_getf gd_M_tryAll_56 gf_M_38 hR rfl ?_
                          refine gz_iload_n gd_M_tryAll_59 rfl rfl ?_
                          refine mt_iaload (a := 93) (i := i) gd_M_tryAll_60 hR rfl rfl (show _ < 12 from (by omega)) (hT.par i (by omega)) ?_
                          refine gz_iload_n gd_M_tryAll_61 rfl rfl ?_
                          refine gz_icmp_ne (tgt := 79) gd_M_tryAll_62 (by decide) (fun h62 => ?_) (fun h62 => ?_)
                          ·
                            replace h62 := mt (oI_eq (o := o) (fun j hj => hB.par _ _ (by omega) hj) (by omega)).2 h62
                            exact absurd hpo h62
                          ·
                            replace h62 := (oI_eq (o := o) (fun j hj => hB.par _ _ (by omega) hj) (by omega)).1 h62
                            refine gz_aload_n gd_M_tryAll_65 rfl rfl (gz_isr.r _) ?_
                            refine gz_iload_n gd_M_tryAll_66 rfl rfl ?_
                            refine gz_iload_n gd_M_tryAll_67 rfl rfl ?_
                            refine gz_virtual2 gd_M_tryAll_68 hR.1 rfl rfl gs_M_tryAll_68 (Nat.le_of_ble_eq_true rfl) (Nat.le_of_ble_eq_true rfl) ?_
                            refine m_setsFirst (T := U) (o := o) (c := i) hR hT hB ho (by omega) (fun hz => by have h1 := pot_line (T := U) ho; have h2 := pot_wt (T := U) (o := i) (by omega); have h3 := hJ.2.1; unfold pot at h3; omega) (fun hf S M hR hT => ?_) (fun T2 hf S M hR hT => ?_)
                            ·
                              refine gz_if_eq (tgt := 79) gd_M_tryAll_71 (by decide) (fun h71 => ?_) (fun h71 => ?_)
                              ·
                                refine gz_iinc (v := nI (i + 1)) gd_M_tryAll_79 rfl (nI_1 i) (Nat.le_of_ble_eq_true rfl) rfl ?_
                                refine gz_goto (tgt := 49) gd_M_tryAll_82 (by decide) ?_
                                rw [wh_n hf] at he
                                have ih2 := ih (i + 1) (by omega) _ _ hR (by rw [← he]; exact hT)
                                rw [← he] at ih2
                                exact ih2
                              ·
                                exact absurd h71 (by decide)
                            ·
                              exact absurd hq (by obtain ⟨x, xs, hx, _⟩ := y_first_wt hf; rw [hx]; simp)
                        | succ q ihq =>
                          intro U m2 hq hJ hpo S M hR hT he
                          have hB := hJ.1
                          refine gz_aload_n gd_M_tryAll_55 rfl rfl (gz_isr.r _) ?_
                          refine md_getf gd_M_tryAll_56 gf_M_38 hR rfl ?_
                          refine gz_iload_n gd_M_tryAll_59 rfl rfl ?_
                          refine mt_iaload (a := 93) (i := i) gd_M_tryAll_60 hR rfl rfl (show _ < 12 from (by omega)) (hT.par i (by omega)) ?_
                          refine gz_iload_n gd_M_tryAll_61 rfl rfl ?_
                          refine gz_icmp_ne (tgt := 79) gd_M_tryAll_62 (by decide) (fun h62 => ?_) (fun h62 => ?_)
                          ·
                            replace h62 := mt (oI_eq (o := o) (fun j hj => hB.par _ _ (by omega) hj) (by omega)).2 h62
                            exact absurd hpo h62
                          ·
                            replace h62 := (oI_eq (o := o) (fun j hj => hB.par _ _ (by omega) hj) (by omega)).1 h62
                            refine gz_aload_n gd_M_tryAll_65 rfl rfl (gz_isr.r _) ?_
                            refine gz_iload_n gd_M_tryAll_66 rfl rfl ?_
                            refine gz_iload_n gd_M_tryAll_67 rfl rfl ?_
                            refine gz_virtual2 gd_M_tryAll_68 hR.1 rfl rfl gs_M_tryAll_68 (Nat.le_of_ble_eq_true rfl) (Nat.le_of_ble_eq_true rfl) ?_
                            refine m_setsFirst (T := U) (o := o) (c := i) hR hT hB ho (by omega) (fun hz => by have h1 := pot_line (T := U) ho; have h2 := pot_wt (T := U) (o := i) (by omega); have h3 := hJ.2.1; unfold pot at h3; omega) (fun hf S M hR hT => ?_) (fun T2 hf S M hR hT => ?_)
                            ·
                              refine gz_if_eq (tgt := 79) gd_M_tryAll_71 (by decide) (fun h71 => ?_) (fun h71 => ?_)
                              ·
                                refine gz_iinc (v := nI (i + 1)) gd_M_tryAll_79 rfl (nI_1 i) (Nat.le_of_ble_eq_true rfl) rfl ?_
                                refine gz_goto (tgt := 49) gd_M_tryAll_82 (by decide) ?_
                                rw [wh_n hf] at he
                                have ih2 := ih (i + 1) (by omega) _ _ hR (by rw [← he]; exact hT)
                                rw [← he] at ih2
                                exact ih2
                              ·
                                exact absurd h71 (by decide)
                            ·
                              refine gz_if_eq (tgt := 79) gd_M_tryAll_71 (by decide) (fun h71 => ?_) (fun h71 => ?_)
                              ·
                                exact absurd h71 (by decide)
                              ·
                                refine gz_iconst (v := 1) gd_M_tryAll_74 (by decide) ?_
                                refine gz_istore_n gd_M_tryAll_75 rfl (Nat.le_of_ble_eq_true rfl) rfl ?_
                                refine gz_goto (tgt := 55) gd_M_tryAll_76 (by decide) ?_
                                exact ihq T2 true (by obtain ⟨x, xs, hx, _, hw, _⟩ := y_first_wt hf; rw [hw, ct1_s]; rw [hx] at hq; simp only [List.length_cons] at hq; omega) (hJ.first ho (by omega) hf) (by rw [y_first_par hf]; exact hpo) _ _ hR hT ((wh_s hf).symm.trans he)
                      exact loop3 _ _ _ rfl hJ hpo _ _ hR hT e.symm
                    ·
                      refine gz_aload_n gd_M_tryAll_55 rfl rfl (gz_isr.r _) ?_
                      refine md_getf gd_M_tryAll_56 gf_M_38 hR rfl ?_
                      refine gz_iload_n gd_M_tryAll_59 rfl rfl ?_
                      refine mt_iaload (a := 93) (i := i) gd_M_tryAll_60 hR rfl rfl (show _ < 12 from (by omega)) (hT.par i (by omega)) ?_
                      refine gz_iload_n gd_M_tryAll_61 rfl rfl ?_
                      refine gz_icmp_ne (tgt := 79) gd_M_tryAll_62 (by decide) (fun h62 => ?_) (fun h62 => ?_)
                      ·
                        replace h62 := mt (oI_eq (o := o) (fun j hj => hB.par _ _ (by omega) hj) (by omega)).2 h62
                        refine gz_iinc (v := nI (i + 1)) gd_M_tryAll_79 rfl (nI_1 i) (Nat.le_of_ble_eq_true rfl) rfl ?_
                        refine gz_goto (tgt := 49) gd_M_tryAll_82 (by decide) ?_
                        have e : y_r2 (y_r1 T o 40) o (i + 1) = y_r2 (y_r1 T o 40) o i := if_neg hpo
                        have ih2 := ih (i + 1) (by omega) _ _ hR (by rw [e]; exact hT)
                        rw [e] at ih2
                        exact ih2
                      ·
                        replace h62 := (oI_eq (o := o) (fun j hj => hB.par _ _ (by omega) hj) (by omega)).1 h62
                        exact absurd h62 hpo
              exact loop2 12 0 (by omega) _ _ hR hT
            ·
              replace h13 := mt (nI_leI (a := 40) (b := i) (by omega) (by omega)).2 h13
              omega
          | succ j ih =>
            intro i hi S M hR hT
            have hJ := (r1_J hI ho i (by omega)).1
            have hB := hJ.1
            refine gz_iload_n gd_M_tryAll_10 rfl rfl ?_
            refine gz_bipush (v := 40) gd_M_tryAll_11 (by decide) ?_
            refine gz_icmp_ge (tgt := 47) gd_M_tryAll_13 (by decide) (fun h13 => ?_) (fun h13 => ?_)
            ·
              replace h13 := (nI_leI (a := 40) (b := i) (by omega) (by omega)).1 h13
              omega
            ·
              replace h13 := mt (nI_leI (a := 40) (b := i) (by omega) (by omega)).2 h13
              refine gz_aload_n gd_M_tryAll_16 rfl rfl (gz_isr.r _) ?_
              refine md_getf gd_M_tryAll_17 gf_M_50 hR rfl ?_
              refine gz_bipush (v := 40) gd_M_tryAll_20 (by decide) ?_
              refine gz_iload_n gd_M_tryAll_22 rfl rfl ?_
              refine gq_imul (z := nI (40 * o)) gd_M_tryAll_23 (pk_mul 40 o) ?_
              refine gz_iload_n gd_M_tryAll_24 rfl rfl ?_
              refine gq_iadd (z := nI (40 * o + i)) gd_M_tryAll_25 (nI_add (40 * o) i) ?_
              refine mt_zaload (a := 97) (i := 40 * o + i) gd_M_tryAll_26 hR rfl rfl (show _ < 480 from (by omega)) (hT.ow o i (by omega) (by omega)) ?_
              refine gz_if_eq (tgt := 41) gd_M_tryAll_27 (by decide) (fun h27 => ?_) (fun h27 => ?_)
              ·
                replace h27 := bI_0.1 h27
                refine gz_iinc (v := nI (i + 1)) gd_M_tryAll_41 rfl (nI_1 i) (Nat.le_of_ble_eq_true rfl) rfl ?_
                refine gz_goto (tgt := 10) gd_M_tryAll_44 (by decide) ?_
                have e : y_r1 T o (i + 1) = y_r1 T o i := if_neg (by rw [h27]; exact Bool.false_ne_true)
                have := ih (i + 1) (by omega) _ _ hR (by rw [e]; exact hT)
                rw [e] at this
                exact this
              ·
                replace h27 := bI_n.1 h27
                refine gz_aload_n gd_M_tryAll_30 rfl rfl (gz_isr.r _) ?_
                refine gz_iload_n gd_M_tryAll_31 rfl rfl ?_
                refine gz_iload_n gd_M_tryAll_32 rfl rfl ?_
                refine gz_virtual2 gd_M_tryAll_33 hR.1 rfl rfl gs_M_tryAll_33 (Nat.le_of_ble_eq_true rfl) (Nat.le_of_ble_eq_true rfl) ?_
                refine m_setsOwn (T := (y_r1 T o i).1) (o := o) (p := i) hR hT ho (by omega) (by have := hB.shown o i ho (by omega); have := hB.vs; omega) (fun z hz => hB.src o i z ho (by omega) hz) (fun z hz => hB.par o z ho hz) (Nat.le_trans (hB.last i (by omega)) hB.vs) (hJ.2.2 o i ho (by omega) h27) (by have h1 := pot_line (T := (y_r1 T o i).1) ho; have h2 := pot_ow (T := (y_r1 T o i).1) (o := o) (p := i) ho (by omega); rw [h27] at h2; have h3 := hJ.2.1; unfold pot at h3; have e1 : bN true = 1 := rfl; omega) hB.postN (fun S M hR hT => ?_)
                refine gz_if_eq (tgt := 41) gd_M_tryAll_36 (by decide) (fun h36 => ?_) (fun h36 => ?_)
                ·
                  replace h36 := bI_0.1 h36
                  refine gz_iinc (v := nI (i + 1)) gd_M_tryAll_41 rfl (nI_1 i) (Nat.le_of_ble_eq_true rfl) rfl ?_
                  refine gz_goto (tgt := 10) gd_M_tryAll_44 (by decide) ?_
                  have e : y_r1 T o (i + 1) = (y_own (y_r1 T o i).1 o i, (y_r1 T o i).2) := by
                    refine (if_pos h27).trans ?_
                    rw [h36, Bool.or_false]
                  have := ih (i + 1) (by omega) _ _ hR (by rw [e]; exact hT)
                  rw [e] at this
                  exact this
                ·
                  replace h36 := bI_n.1 h36
                  refine gz_iconst (v := 1) gd_M_tryAll_39 (by decide) ?_
                  refine gz_istore_n gd_M_tryAll_40 rfl (Nat.le_of_ble_eq_true rfl) rfl ?_
                  refine gz_iinc (v := nI (i + 1)) gd_M_tryAll_41 rfl (nI_1 i) (Nat.le_of_ble_eq_true rfl) rfl ?_
                  refine gz_goto (tgt := 10) gd_M_tryAll_44 (by decide) ?_
                  have e : y_r1 T o (i + 1) = (y_own (y_r1 T o i).1 o i, true) := by
                    refine (if_pos h27).trans ?_
                    rw [h36, Bool.or_true]
                  have := ih (i + 1) (by omega) _ _ hR (by rw [e]; exact hT)
                  rw [e] at this
                  exact this
        exact loop1 40 0 (by omega) _ _ hR hT
  exact outer (y_waits T o + 1) T true none (fun _ => Nat.lt_succ_self _) hI (fun S M hR hT => k S M hR (by rw [if_pos rfl] at hT; exact hT)) _ _ hR hT
