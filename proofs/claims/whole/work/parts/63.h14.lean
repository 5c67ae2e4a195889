/-! The class: seats. Printed by wip/whole/h14.py -/
theorem RC.st_any {M0 : gzM} {b : Nat} {v : gV} {g : gG} {T : CT} {M : gzM} {n nc ns : Nat} (h : RC M0 b v g T M n nc ns) {M' : gzM} {f : Nat → Value} {z : Nat → Int32} (hN : ∀ j, j ≠ 10 → M' j = M j) (hX : M' 10 = some (.inl (1, 6, f))) (hf : ∀ i, i < 6 → f i = .int (z i)) : RC M0 b v (g.w_st z) T M' n nc ns := by
  obtain ⟨hF, hD, hE⟩ := h
  have hD1 := (hD.fix hF (k := 10) (by omega) (by omega) hN).1
  refine ⟨⟨(hN _ (by omega)).trans hF.house, ?_, ?_, ?_, ?_, ?_, ⟨f, hX, hf⟩, fun o ho => (hN _ (by omega)).trans (hF.off o ho), fun o ho => ?_, fun o ho => ?_, fun o ho => ?_, ?_, fun o ho => ?_, fun o ho => ?_⟩, hD1, hE⟩
  · rw [hN _ (by omega)]; exact hF.precs
  · rw [hN _ (by omega)]; exact hF.offs
  · rw [hN _ (by omega)]; exact hF.draft
  · rw [hN _ (by omega)]; exact hF.sm
  · rw [hN _ (by omega)]; exact hF.rs
  · rw [hN _ (by omega)]; exact hF.shown o ho
  · rw [hN _ (by omega)]; exact hF.src o ho
  · rw [hN _ (by omega)]; exact hF.ow o ho
  · rw [hN _ (by omega)]; exact hF.loP
  · rw [hN _ (by omega)]; exact hF.loL o ho
  · rw [hN _ (by omega)]; exact hF.loW o ho
theorem dv_eq {e c : Nat} (he : e ≤ 2) (hc : c ≤ 1000) : (nI e * nI c + 1).toInt64 = 1 + (nI e * nI c).toInt64 := by
  have h1 : e * c ≤ 2 * 1000 := Nat.mul_le_mul he hc
  rw [pk_mul, show nI (e * c) + 1 = nI (e * c + 1) from nI_add (e * c) 1]
  apply Int64.toInt_inj.1
  rw [Int64.toInt_add, Int32.toInt_toInt64, Int32.toInt_toInt64, nI_toInt (by omega), nI_toInt (by omega), show (1 : Int64).toInt = 1 from rfl]
  rw [Int.bmod_eq_of_le (by omega) (by omega)]
  omega
theorem sB_d {xn : Int32} {al : Int64} {S S' : gS} {L L' : gL} (h2 : ∀ i, i < 6 → L 110 i = L' 110 i) : ∀ i, i ≤ 6 → (∀ j, j < i → (y_sB xn al S L i).1 112 j = (y_sB xn al S' L' i).1 112 j) ∧ (∀ j, j < 6 → (y_sB xn al S L i).2.1 110 j = (y_sB xn al S' L' i).2.1 110 j) ∧ (∀ j, j < i → (y_sB xn al S L i).2.1 111 j = (y_sB xn al S' L' i).2.1 111 j) ∧ (y_sB xn al S L i).2.2 = (y_sB xn al S' L' i).2.2
  | 0, _ => ⟨fun j hj => absurd hj (Nat.not_lt_zero _), h2, fun j hj => absurd hj (Nat.not_lt_zero _), rfl⟩
  | i + 1, hi => by
    obtain ⟨a1, a2, a3, a4⟩ := sB_d (xn := xn) (al := al) (S := S) (S' := S') h2 i (by omega)
    have e := a2 i (by omega)
    simp only [y_sB]
    refine ⟨fun j hj => ?_, fun j hj => ?_, fun j hj => ?_, ?_⟩
    · rw [e]
      by_cases c : j = i
      · rw [c, gs_same, gs_same]
      · rw [gs_ne (fun y => c y.2), gs_ne (fun y => c y.2)]
        exact a1 j (by omega)
    · unfold gl_set
      rw [if_neg (by omega), if_neg (by omega)]
      exact a2 j hj
    · rw [e]
      by_cases c : j = i
      · rw [c, gl_same, gl_same]
      · rw [gl_ne c, gl_ne c]
        exact a3 j (by omega)
    · rw [a4, e]
theorem sB_110 {xn : Int32} {al : Int64} {S : gS} {L : gL} {i j : Nat} : (y_sB xn al S L (i + 1)).2.1 110 j = (y_sB xn al S L i).2.1 110 j := by
  simp only [y_sB]
  unfold gl_set
  rw [if_neg (by omega)]
theorem seat_2' {T : CT} {o g : Nat} {xn : Int32} {al : Int64} {S : gS} {L : gL} (hL : ∀ g, g < 6 → L 110 g = y_sum T o none g 40) (ha : y_sA (sm0 T o) 6 = al) (hal : ¬ al = 0) (hg : g < 6) : y_seat T o xn 2 g = (y_sC 2 (y_left (y_sB xn al S L 6).2.2) (y_sB xn al S L 6).1 (y_sB xn al S L 6).2.1).1 112 g := by
  unfold y_seat
  rw [ha, if_neg hal, if_pos rfl]
  obtain ⟨a1, a2, a3, a4⟩ := sB_d (xn := xn) (al := al) (S := S) (S' := fun _ _ => 0) (L := L) (L' := sm0 T o) (sm0_L hL) 6 (Nat.le_refl _)
  rw [← a4]
  exact (sC_c _ a1 a2 (fun _ => a3) g hg).symm
theorem h_divs {l : Launch} {D : gzD} {K : gzK} {M : gzM} {n nc ns : Nat} {M0 : gzM} {b : Nat} {v : gV} {g : gG} {T : CT} (hC : RC M0 b v g T M n nc ns) {N e : Nat} {ru : Int32} (hN : N ≤ 1000) (he : e ≤ 2) (hru : ¬ ru = 2) (hre : ru + 1 = nI e) {S0 : gS} {L0 : gL} (h0 : ∀ i, i < 6 → S0 112 i = 0) (hsm : ∀ i, i < 6 → g.sm i = L0 110 i) (k : ∀ g M, RC M0 b v g T M n nc ns → (∀ i, i < 6 → g.st i = (y_sC ru N S0 L0).1 112 i) → K (.inl none) M n nc ns) : GZ l P1 D F_H_shareByDivisors K 0 [some (.ref 3), some (.int (nI N)), some (.int (nI e)), none, none, none, none, none, none, none] [] M n nc ns := by
  refine gz_aload_n gd_H_shareByDivisors_0 rfl rfl (gz_isr.r _) ?_
  refine gq_getf (y := .ref (10)) gd_H_shareByDivisors_1 gf_H_39 hC.1.house rfl rfl ?_
  refine gz_iconst (v := 0) gd_H_shareByDivisors_4 (by decide) ?_
  refine gz_static2 gd_H_shareByDivisors_5 gs_H_shareByDivisors_5 (Nat.le_of_ble_eq_true rfl) (Nat.le_of_ble_eq_true rfl) ?_
  obtain ⟨f0, z0, -⟩ := hC.1.st
  refine j_fill z0 (by decide) (fun M1 f1 z1 z2 z3 => ?_)
  replace hC := hC.st_any (z := fun _ => 0) z3 z1 z2
  refine gz_iconst (v := 0) gd_H_shareByDivisors_8 (by decide) ?_
  refine gz_istore_n gd_H_shareByDivisors_9 rfl (Nat.le_of_ble_eq_true rfl) rfl ?_
  have loop : ∀ (q s : Nat), s + q = N → ∀ (S : gS) (L : gL) (y4 y5 y6 y7 y8 y9 : Option Value) g M, RC M0 b v g T M n nc ns → (∀ i, i < 6 → g.st i = S 112 i) → (∀ i, i < 6 → g.sm i = L 110 i) → (∀ i, i < 6 → ∃ c, c ≤ s ∧ S 112 i = nI c) → (∀ g M, RC M0 b v g T M n nc ns → (∀ i, i < 6 → g.st i = (y_sC ru q S L).1 112 i) → K (.inl none) M n nc ns) → GZ l P1 D F_H_shareByDivisors K 10 [some (.ref 3), some (.int (nI N)), some (.int (nI e)), some (.int (nI s)), y4, y5, y6, y7, y8, y9] [] M n nc ns := by
    intro q
    induction q with
    | zero =>
      intro s hs S L y4 y5 y6 y7 y8 y9 g M hC hst hsm hbd k
      refine gz_iload_n gd_H_shareByDivisors_10 rfl rfl ?_
      refine gz_iload_n gd_H_shareByDivisors_11 rfl rfl ?_
      refine gz_icmp_ge (tgt := 107) gd_H_shareByDivisors_12 (by decide) (fun h12 => ?_) (fun h12 => ?_)
      ·
        replace h12 := (nI_leI (a := N) (b := s) (by omega) (by omega)).1 h12
        refine gz_return gd_H_shareByDivisors_107 rfl ?_
        exact k _ _ hC hst
      ·
        replace h12 := mt (nI_leI (a := N) (b := s) (by omega) (by omega)).2 h12
        omega
    | succ q ih =>
      intro s hs S L y4 y5 y6 y7 y8 y9 g M hC hst hsm hbd k
      refine gz_iload_n gd_H_shareByDivisors_10 rfl rfl ?_
      refine gz_iload_n gd_H_shareByDivisors_11 rfl rfl ?_
      refine gz_icmp_ge (tgt := 107) gd_H_shareByDivisors_12 (by decide) (fun h12 => ?_) (fun h12 => ?_)
      ·
        replace h12 := (nI_leI (a := N) (b := s) (by omega) (by omega)).1 h12
        omega
      ·
        replace h12 := mt (nI_leI (a := N) (b := s) (by omega) (by omega)).2 h12
        refine gz_iconst (v := 0) gd_H_shareByDivisors_15 (by decide) ?_
        refine gz_istore gd_H_shareByDivisors_16 (Nat.le_of_ble_eq_true rfl) rfl ?_
        refine gz_iconst (v := 1) gd_H_shareByDivisors_18 (by decide) ?_
        refine gz_istore gd_H_shareByDivisors_19 (Nat.le_of_ble_eq_true rfl) rfl ?_
        have loop2 : ∀ (j i : Nat), i + j = 5 → ∀ (y6 y7 y8 y9 : Option Value), GZ l P1 D F_H_shareByDivisors K 21 [some (.ref 3), some (.int (nI N)), some (.int (nI e)), some (.int (nI s)), some (.int (nI (y_bs ru S L i))), some (.int (nI (i + 1))), y6, y7, y8, y9] [] M n nc ns := by
          intro j
          induction j with
          | zero =>
            intro i hi y6 y7 y8 y9
            have hb1 := bs_le (ru := ru) (S := S) (L := L) i
            refine gz_iload gd_H_shareByDivisors_21 rfl ?_
            refine gz_bipush (v := 6) gd_H_shareByDivisors_23 (by decide) ?_
            refine gz_icmp_ge (tgt := 90) gd_H_shareByDivisors_25 (by decide) (fun h25 => ?_) (fun h25 => ?_)
            ·
              replace h25 := (nI_leI (a := 6) (b := i + 1) (by omega) (by omega)).1 h25
              have e5 : i = 5 := by omega
              subst e5
              skip
              refine gz_aload_n gd_H_shareByDivisors_90 rfl rfl (gz_isr.r _) ?_
              refine gq_getf (y := .ref (10)) gd_H_shareByDivisors_91 gf_H_39 hC.1.house rfl rfl ?_
              refine gz_iload gd_H_shareByDivisors_94 rfl ?_
              refine gz_dup2 gd_H_shareByDivisors_96 rfl rfl ?_
              refine rc_st (i := y_bs ru S L 5) gd_H_shareByDivisors_97 hC (by omega) ?_
              refine gz_iconst (v := 1) gd_H_shareByDivisors_98 (by decide) ?_
              refine gq_iadd (z := (g.st (y_bs ru S L 5) + 1)) gd_H_shareByDivisors_99 rfl ?_
              refine rs_st (i := y_bs ru S L 5) gd_H_shareByDivisors_100 hC (by omega) (fun M hC => ?_)
              refine gz_iinc (v := nI (s + 1)) gd_H_shareByDivisors_101 rfl (nI_1 s) (Nat.le_of_ble_eq_true rfl) rfl ?_
              refine gz_goto (tgt := 10) gd_H_shareByDivisors_104 (by decide) ?_
              refine ih (s + 1) (by omega) (gs_set S 112 (y_bs ru S L 5) (S 112 (y_bs ru S L 5) + 1)) (gl_set L 111 (y_bs ru S L 5) (-1)) _ _ _ _ _ _ _ _ hC (fun j hj => ?_) (fun j hj => ?_) (fun j hj => ?_) k
              · show ct1 g.st (y_bs ru S L 5) (g.st (y_bs ru S L 5) + 1) j = _
                by_cases c : j = y_bs ru S L 5
                · rw [c, ct1_at, gs_same, hst _ (by omega)]
                · rw [ct1_ne c, gs_ne (fun y => c y.2)]
                  exact hst j hj
              · unfold gl_set
                rw [if_neg (by omega)]
                exact hsm j hj
              · by_cases c : j = y_bs ru S L 5
                · obtain ⟨z, hz, ez⟩ := hbd (y_bs ru S L 5) (by omega)
                  exact ⟨z + 1, by omega, by rw [c, gs_same, ez]; exact nI_add z 1⟩
                · obtain ⟨z, hz, ez⟩ := hbd j hj
                  exact ⟨z, by omega, by rw [gs_ne (fun y => c y.2)]; exact ez⟩
            ·
              replace h25 := mt (nI_leI (a := 6) (b := i + 1) (by omega) (by omega)).2 h25
              omega
          | succ j ih2 =>
            intro i hi y6 y7 y8 y9
            have hb1 := bs_le (ru := ru) (S := S) (L := L) i
            obtain ⟨ca, hca, eca⟩ := hbd (y_bs ru S L i) (by omega)
            obtain ⟨cb, hcb, ecb⟩ := hbd (i + 1) (by omega)
            refine gz_iload gd_H_shareByDivisors_21 rfl ?_
            refine gz_bipush (v := 6) gd_H_shareByDivisors_23 (by decide) ?_
            refine gz_icmp_ge (tgt := 90) gd_H_shareByDivisors_25 (by decide) (fun h25 => ?_) (fun h25 => ?_)
            ·
              replace h25 := (nI_leI (a := 6) (b := i + 1) (by omega) (by omega)).1 h25
              omega
            ·
              replace h25 := mt (nI_leI (a := 6) (b := i + 1) (by omega) (by omega)).2 h25
              refine gz_aload_n gd_H_shareByDivisors_28 rfl rfl (gz_isr.r _) ?_
              refine gq_getf (y := .ref (8)) gd_H_shareByDivisors_29 gf_H_32 hC.1.house rfl rfl ?_
              refine gz_iload gd_H_shareByDivisors_32 rfl ?_
              refine rc_sm (i := i + 1) gd_H_shareByDivisors_34 hC (by omega) ?_
              refine gz_iload_n gd_H_shareByDivisors_35 rfl rfl ?_
              refine gz_aload_n gd_H_shareByDivisors_36 rfl rfl (gz_isr.r _) ?_
              refine gq_getf (y := .ref (10)) gd_H_shareByDivisors_37 gf_H_39 hC.1.house rfl rfl ?_
              refine gz_iload gd_H_shareByDivisors_40 rfl ?_
              refine rc_st (i := y_bs ru S L i) gd_H_shareByDivisors_42 hC (by omega) ?_
              refine gq_imul (z := (nI e * g.st (y_bs ru S L i))) gd_H_shareByDivisors_43 rfl ?_
              refine gz_iconst (v := 1) gd_H_shareByDivisors_44 (by decide) ?_
              refine gq_iadd (z := (nI e * g.st (y_bs ru S L i) + 1)) gd_H_shareByDivisors_45 rfl ?_
              refine gz_i2l gd_H_shareByDivisors_46 ?_
              refine gz_lmul gd_H_shareByDivisors_47 ?_
              refine gz_lstore gd_H_shareByDivisors_48 (Nat.le_of_ble_eq_true rfl) rfl ?_
              refine gz_aload_n gd_H_shareByDivisors_50 rfl rfl (gz_isr.r _) ?_
              refine gq_getf (y := .ref (8)) gd_H_shareByDivisors_51 gf_H_32 hC.1.house rfl rfl ?_
              refine gz_iload gd_H_shareByDivisors_54 rfl ?_
              refine rc_sm (i := y_bs ru S L i) gd_H_shareByDivisors_56 hC (by omega) ?_
              refine gz_iload_n gd_H_shareByDivisors_57 rfl rfl ?_
              refine gz_aload_n gd_H_shareByDivisors_58 rfl rfl (gz_isr.r _) ?_
              refine gq_getf (y := .ref (10)) gd_H_shareByDivisors_59 gf_H_39 hC.1.house rfl rfl ?_
              refine gz_iload gd_H_shareByDivisors_62 rfl ?_
              refine rc_st (i := i + 1) gd_H_shareByDivisors_64 hC (by omega) ?_
              refine gq_imul (z := (nI e * g.st (i + 1))) gd_H_shareByDivisors_65 rfl ?_
              refine gz_iconst (v := 1) gd_H_shareByDivisors_66 (by decide) ?_
              refine gq_iadd (z := (nI e * g.st (i + 1) + 1)) gd_H_shareByDivisors_67 rfl ?_
              refine gz_i2l gd_H_shareByDivisors_68 ?_
              refine gz_lmul gd_H_shareByDivisors_69 ?_
              refine gz_lstore gd_H_shareByDivisors_70 (Nat.le_of_ble_eq_true rfl) trivial ?_
              refine gz_lload gd_H_shareByDivisors_72 rfl ?_
              refine gz_lload gd_H_shareByDivisors_74 rfl ?_
              refine gz_lcmp gd_H_shareByDivisors_76 ?_
              refine gz_if_le (tgt := 84) gd_H_shareByDivisors_77 (by decide) (fun h77 => ?_) (fun h77 => ?_)
              ·
                refine gz_iinc (v := nI (i + 1 + 1)) gd_H_shareByDivisors_84 rfl (nI_1 (i + 1)) (Nat.le_of_ble_eq_true rfl) rfl ?_
                refine gz_goto (tgt := 21) gd_H_shareByDivisors_87 (by decide) ?_
                have m1 : y_mine ru S L (i + 1) (y_bs ru S L i) = g.sm (i + 1) * (nI e * g.st (y_bs ru S L i) + 1).toInt64 := by
                  unfold y_mine
                  rw [if_neg hru, hsm _ (by omega), hst _ (by omega), eca, dv_eq he (by omega), hre]
                have m2 : y_mine ru S L (y_bs ru S L i) (i + 1) = g.sm (y_bs ru S L i) * (nI e * g.st (i + 1) + 1).toInt64 := by
                  unfold y_mine
                  rw [if_neg hru, hsm _ (by omega), hst _ (by omega), ecb, dv_eq he (by omega), hre]
                rw [← m1, ← m2] at h77
                rw [show y_bs ru S L i = y_bs ru S L (i + 1) from (if_pos h77).symm]
                exact ih2 (i + 1) (by omega) _ _ _ _
              ·
                refine gz_iload gd_H_shareByDivisors_80 rfl ?_
                refine gz_istore gd_H_shareByDivisors_82 (Nat.le_of_ble_eq_true rfl) rfl ?_
                refine gz_iinc (v := nI (i + 1 + 1)) gd_H_shareByDivisors_84 rfl (nI_1 (i + 1)) (Nat.le_of_ble_eq_true rfl) rfl ?_
                refine gz_goto (tgt := 21) gd_H_shareByDivisors_87 (by decide) ?_
                have m1 : y_mine ru S L (i + 1) (y_bs ru S L i) = g.sm (i + 1) * (nI e * g.st (y_bs ru S L i) + 1).toInt64 := by
                  unfold y_mine
                  rw [if_neg hru, hsm _ (by omega), hst _ (by omega), eca, dv_eq he (by omega), hre]
                have m2 : y_mine ru S L (y_bs ru S L i) (i + 1) = g.sm (y_bs ru S L i) * (nI e * g.st (i + 1) + 1).toInt64 := by
                  unfold y_mine
                  rw [if_neg hru, hsm _ (by omega), hst _ (by omega), ecb, dv_eq he (by omega), hre]
                rw [← m1, ← m2] at h77
                have e1 : y_bs ru S L (i + 1) = i + 1 := if_neg h77
                have e2 : nI (i + 1) = nI (y_bs ru S L (i + 1)) := by rw [e1]
                have z := ih2 (i + 1) (by omega) (some (.long (g.sm (i + 1) * (nI e * g.st (y_bs ru S L i) + 1).toInt64))) none (some (.long (g.sm (y_bs ru S L i) * (nI e * g.st (i + 1) + 1).toInt64))) none
                rw [e1] at z
                exact z
        exact loop2 5 0 (by omega) _ _ _ _
  exact loop N 0 (by omega) S0 L0 none none none none none none _ _ hC (fun i hi => (h0 i hi).symm) hsm (fun i hi => ⟨0, Nat.le_refl _, h0 i hi⟩) k

theorem h_rests73 {l : Launch} {D : gzD} {K : gzK} {n nc ns : Nat} {M0 : gzM} {b : Nat} {v : gV} {T : CT} {N : Nat} {al : Int64} (q : Nat) : ∀ (S : gS) (L : gL) (y5 y6 y7 : Option Value) (g : gG) (M : gzM), q < 2 ^ 31 → RC M0 b v g T M n nc ns → (∀ j, j < 6 → g.st j = S 112 j) → (∀ j, j < 6 → g.rs j = L 111 j) → (∀ g M, RC M0 b v g T M n nc ns → (∀ i, i < 6 → g.st i = (y_sC 2 q S L).1 112 i) → K (.inl none) M n nc ns) → GZ l P1 D F_H_shareByRests K 73 [some (.ref 3), some (.int (nI N)), some (.long al), none, some (.int (nI q)), y5, y6, y7] [] M n nc ns := by
  induction q with
  | zero =>
    intro S L y5 y6 y7 g M hq hC e1 e2 k
    refine gz_iload gd_H_shareByRests_73 rfl ?_
    refine gz_if_le (tgt := 146) gd_H_shareByRests_75 (by decide) (fun h75 => ?_) (fun h75 => ?_)
    ·
      replace h75 := (nI_le0 (by omega)).1 h75
      refine gz_return gd_H_shareByRests_146 rfl ?_
      exact k _ _ hC e1
    ·
      replace h75 := mt (nI_le0 (by omega)).2 h75
      omega
  | succ q ih =>
    intro S L y5 y6 y7 g M hq hC e1 e2 k
    refine gz_iload gd_H_shareByRests_73 rfl ?_
    refine gz_if_le (tgt := 146) gd_H_shareByRests_75 (by decide) (fun h75 => ?_) (fun h75 => ?_)
    ·
      replace h75 := (nI_le0 (by omega)).1 h75
      omega
    ·
      replace h75 := mt (nI_le0 (by omega)).2 h75
      refine gz_iconst (v := 0) gd_H_shareByRests_78 (by decide) ?_
      refine gz_istore gd_H_shareByRests_79 (Nat.le_of_ble_eq_true rfl) rfl ?_
      refine gz_iconst (v := 1) gd_H_shareByRests_81 (by decide) ?_
      refine gz_istore gd_H_shareByRests_82 (Nat.le_of_ble_eq_true rfl) rfl ?_
      have loop2 : ∀ (j i : Nat), i + j = 5 → ∀ (y7 : Option Value), GZ l P1 D F_H_shareByRests K 84 [some (.ref 3), some (.int (nI N)), some (.long al), none, some (.int (nI (q + 1))), some (.int (nI (y_bs 2 S L i))), some (.int (nI (i + 1))), y7] [] M n nc ns := by
        intro j
        induction j with
        | zero =>
          intro i hi y7
          have hb1 := bs_le (ru := 2) (S := S) (L := L) i
          refine gz_iload gd_H_shareByRests_84 rfl ?_
          refine gz_bipush (v := 6) gd_H_shareByRests_86 (by decide) ?_
          refine gz_icmp_ge (tgt := 119) gd_H_shareByRests_88 (by decide) (fun h88 => ?_) (fun h88 => ?_)
          ·
            replace h88 := (nI_leI (a := 6) (b := i + 1) (by omega) (by omega)).1 h88
            have e5 : i = 5 := by omega
            subst e5
            refine gz_aload_n gd_H_shareByRests_119 rfl rfl (gz_isr.r _) ?_
            refine gq_getf (y := .ref (10)) gd_H_shareByRests_120 gf_H_39 hC.1.house rfl rfl ?_
            refine gz_iload gd_H_shareByRests_123 rfl ?_
            refine gz_dup2 gd_H_shareByRests_125 rfl rfl ?_
            refine rc_st (i := y_bs 2 S L 5) gd_H_shareByRests_126 hC (by omega) ?_
            refine gz_iconst (v := 1) gd_H_shareByRests_127 (by decide) ?_
            refine gq_iadd (z := (g.st (y_bs 2 S L 5) + 1)) gd_H_shareByRests_128 rfl ?_
            refine rs_st (i := y_bs 2 S L 5) gd_H_shareByRests_129 hC (by omega) (fun M hC => ?_)
            refine gz_aload_n gd_H_shareByRests_130 rfl rfl (gz_isr.r _) ?_
            refine gq_getf (y := .ref (9)) gd_H_shareByRests_131 gf_H_36 hC.1.house rfl rfl ?_
            refine gz_iload gd_H_shareByRests_134 rfl ?_
            refine gz_ldc2 (v := -1) gd_H_shareByRests_136 gw_747 ?_
            refine rs_rs (i := y_bs 2 S L 5) gd_H_shareByRests_139 hC (by omega) (fun M hC => ?_)
            refine gz_iinc (v := nI q) gd_H_shareByRests_140 rfl (pk_m1 q) (Nat.le_of_ble_eq_true rfl) trivial ?_
            refine gz_goto (tgt := 73) gd_H_shareByRests_143 (by decide) ?_
            refine ih (gs_set S 112 (y_bs 2 S L 5) (S 112 (y_bs 2 S L 5) + 1)) (gl_set L 111 (y_bs 2 S L 5) (-1)) _ _ _ _ _ (by omega) hC (fun j hj => ?_) (fun j hj => ?_) k
            · show ct1 g.st (y_bs 2 S L 5) (g.st (y_bs 2 S L 5) + 1) j = _
              by_cases c : j = y_bs 2 S L 5
              · rw [c, ct1_at, gs_same, e1 _ (by omega)]
              · rw [ct1_ne c, gs_ne (fun y => c y.2)]
                exact e1 j hj
            · show ct1 g.rs (y_bs 2 S L 5) (-1) j = _
              by_cases c : j = y_bs 2 S L 5
              · rw [c, ct1_at, gl_same]
              · rw [ct1_ne c, gl_ne c]
                exact e2 j hj
          ·
            replace h88 := mt (nI_leI (a := 6) (b := i + 1) (by omega) (by omega)).2 h88
            omega
        | succ j ih2 =>
          intro i hi y7
          have hb1 := bs_le (ru := 2) (S := S) (L := L) i
          refine gz_iload gd_H_shareByRests_84 rfl ?_
          refine gz_bipush (v := 6) gd_H_shareByRests_86 (by decide) ?_
          refine gz_icmp_ge (tgt := 119) gd_H_shareByRests_88 (by decide) (fun h88 => ?_) (fun h88 => ?_)
          ·
            replace h88 := (nI_leI (a := 6) (b := i + 1) (by omega) (by omega)).1 h88
            omega
          ·
            replace h88 := mt (nI_leI (a := 6) (b := i + 1) (by omega) (by omega)).2 h88
            refine gz_aload_n gd_H_shareByRests_91 rfl rfl (gz_isr.r _) ?_
            refine gq_getf (y := .ref (9)) gd_H_shareByRests_92 gf_H_36 hC.1.house rfl rfl ?_
            refine gz_iload gd_H_shareByRests_95 rfl ?_
            refine rc_rs (i := i + 1) gd_H_shareByRests_97 hC (by omega) ?_
            refine gz_aload_n gd_H_shareByRests_98 rfl rfl (gz_isr.r _) ?_
            refine gq_getf (y := .ref (9)) gd_H_shareByRests_99 gf_H_36 hC.1.house rfl rfl ?_
            refine gz_iload gd_H_shareByRests_102 rfl ?_
            refine rc_rs (i := y_bs 2 S L i) gd_H_shareByRests_104 hC (by omega) ?_
            refine gz_lcmp gd_H_shareByRests_105 ?_
            refine gz_if_le (tgt := 113) gd_H_shareByRests_106 (by decide) (fun h106 => ?_) (fun h106 => ?_)
            ·
              refine gz_iinc (v := nI (i + 1 + 1)) gd_H_shareByRests_113 rfl (nI_1 (i + 1)) (Nat.le_of_ble_eq_true rfl) rfl ?_
              refine gz_goto (tgt := 84) gd_H_shareByRests_116 (by decide) ?_
              have m1 : y_mine 2 S L (i + 1) (y_bs 2 S L i) = g.rs (i + 1) := by
                unfold y_mine
                rw [if_pos rfl, e2 _ (by omega)]
              have m2 : y_mine 2 S L (y_bs 2 S L i) (i + 1) = g.rs (y_bs 2 S L i) := by
                unfold y_mine
                rw [if_pos rfl, e2 _ (by omega)]
              rw [← m1, ← m2] at h106
              rw [show y_bs 2 S L i = y_bs 2 S L (i + 1) from (if_pos h106).symm]
              exact ih2 (i + 1) (by omega) _
            ·
              refine gz_iload gd_H_shareByRests_109 rfl ?_
              refine gz_istore gd_H_shareByRests_111 (Nat.le_of_ble_eq_true rfl) rfl ?_
              refine gz_iinc (v := nI (i + 1 + 1)) gd_H_shareByRests_113 rfl (nI_1 (i + 1)) (Nat.le_of_ble_eq_true rfl) rfl ?_
              refine gz_goto (tgt := 84) gd_H_shareByRests_116 (by decide) ?_
              have m1 : y_mine 2 S L (i + 1) (y_bs 2 S L i) = g.rs (i + 1) := by
                unfold y_mine
                rw [if_pos rfl, e2 _ (by omega)]
              have m2 : y_mine 2 S L (y_bs 2 S L i) (i + 1) = g.rs (y_bs 2 S L i) := by
                unfold y_mine
                rw [if_pos rfl, e2 _ (by omega)]
              rw [← m1, ← m2] at h106
              have e1 : y_bs 2 S L (i + 1) = i + 1 := if_neg h106
              have z := ih2 (i + 1) (by omega) y7
              rw [e1] at z
              exact z
      exact loop2 5 0 (by omega) _

theorem h_rests {l : Launch} {D : gzD} {K : gzK} {M : gzM} {n nc ns : Nat} {M0 : gzM} {b : Nat} {v : gV} {g : gG} {T : CT} (hC : RC M0 b v g T M n nc ns) {N : Nat} {al : Int64} (hal : 0 < al) {S : gS} {L : gL} (hst : ∀ j, j < 6 → g.st j = S 112 j) (hrs : ∀ j, j < 6 → g.rs j = L 111 j) (hsm : ∀ j, j < 6 → g.sm j = L 110 j) (k : ∀ g M, RC M0 b v g T M n nc ns → (∀ i, i < 6 → g.st i = (y_sC 2 (y_left (y_sB (nI N) al S L 6).2.2) (y_sB (nI N) al S L 6).1 (y_sB (nI N) al S L 6).2.1).1 112 i) → K (.inl none) M n nc ns) : GZ l P1 D F_H_shareByRests K 0 [some (.ref 3), some (.int (nI N)), some (.long al), none, none, none, none, none] [] M n nc ns := by
  have hne : ¬ al = 0 := fun e => by rw [e] at hal; exact absurd hal (by decide)
  refine gz_lload_n gd_H_shareByRests_0 rfl rfl ?_
  refine gz_lconst (v := 0) gd_H_shareByRests_1 (by decide) ?_
  refine gz_lcmp gd_H_shareByRests_2 ?_
  refine gz_if_gt (tgt := 7) gd_H_shareByRests_3 (by decide) (fun h3 => ?_) (fun h3 => ?_)
  ·
    refine gz_iload_n gd_H_shareByRests_7 rfl rfl ?_
    refine gz_istore gd_H_shareByRests_8 (Nat.le_of_ble_eq_true rfl) trivial ?_
    refine gz_iconst (v := 0) gd_H_shareByRests_10 (by decide) ?_
    refine gz_istore gd_H_shareByRests_11 (Nat.le_of_ble_eq_true rfl) rfl ?_
    have loop : ∀ (j i : Nat), i + j = 6 → ∀ (y6 y7 : Option Value) g M, RC M0 b v g T M n nc ns → (∀ j, j < 6 → g.st j = (y_sB (nI N) al S L i).1 112 j) → (∀ j, j < 6 → g.rs j = (y_sB (nI N) al S L i).2.1 111 j) → (∀ j, j < 6 → g.sm j = (y_sB (nI N) al S L i).2.1 110 j) → GZ l P1 D F_H_shareByRests K 13 [some (.ref 3), some (.int (nI N)), some (.long al), none, some (.int (y_sB (nI N) al S L i).2.2), some (.int (nI i)), y6, y7] [] M n nc ns := by
      intro j
      induction j with
      | zero =>
        intro i hi y6 y7 g M hC e1 e2 e3
        refine gz_iload gd_H_shareByRests_13 rfl ?_
        refine gz_bipush (v := 6) gd_H_shareByRests_15 (by decide) ?_
        refine gz_icmp_ge (tgt := 73) gd_H_shareByRests_17 (by decide) (fun h17 => ?_) (fun h17 => ?_)
        ·
          replace h17 := (nI_leI (a := 6) (b := i) (by omega) (by omega)).1 h17
          have e6 : i = 6 := by omega
          rw [e6] at e1 e2 e3 ⊢
          by_cases hx : 0 ≤ (y_sB (nI N) al S L 6).2.2.toInt
          · obtain ⟨z1, z2⟩ := left_nI hx
            generalize y_left (y_sB (nI N) al S L 6).2.2 = q at k z1 z2
            rw [z1]
            exact h_rests73 q _ _ _ _ _ _ _ z2 hC e1 e2 k
          · have e0 := left_z hx
            rw [e0] at k
            refine gz_iload gd_H_shareByRests_73 rfl ?_
            refine gz_if_le (tgt := 146) gd_H_shareByRests_75 (by decide) (fun h75 => ?_) (fun h75 => ?_)
            ·
              refine gz_return gd_H_shareByRests_146 rfl ?_
              exact k _ _ hC e1
            ·
              exact absurd (Int32.le_iff_toInt_le.2 (by rw [show (0 : Int32).toInt = 0 from rfl]; omega)) h75
        ·
          replace h17 := mt (nI_leI (a := 6) (b := i) (by omega) (by omega)).2 h17
          omega
      | succ j ih =>
        intro i hi y6 y7 g M hC e1 e2 e3
        refine gz_iload gd_H_shareByRests_13 rfl ?_
        refine gz_bipush (v := 6) gd_H_shareByRests_15 (by decide) ?_
        refine gz_icmp_ge (tgt := 73) gd_H_shareByRests_17 (by decide) (fun h17 => ?_) (fun h17 => ?_)
        ·
          replace h17 := (nI_leI (a := 6) (b := i) (by omega) (by omega)).1 h17
          omega
        ·
          replace h17 := mt (nI_leI (a := 6) (b := i) (by omega) (by omega)).2 h17
          refine gz_iload_n gd_H_shareByRests_20 rfl rfl ?_
          refine gz_i2l gd_H_shareByRests_21 ?_
          refine gz_aload_n gd_H_shareByRests_22 rfl rfl (gz_isr.r _) ?_
          refine gq_getf (y := .ref (8)) gd_H_shareByRests_23 gf_H_32 hC.1.house rfl rfl ?_
          refine gz_iload gd_H_shareByRests_26 rfl ?_
          refine rc_sm (i := i) gd_H_shareByRests_28 hC (by omega) ?_
          refine gz_lmul gd_H_shareByRests_29 ?_
          refine gz_lstore gd_H_shareByRests_30 (Nat.le_of_ble_eq_true rfl) rfl ?_
          refine gz_aload_n gd_H_shareByRests_32 rfl rfl (gz_isr.r _) ?_
          refine gq_getf (y := .ref (10)) gd_H_shareByRests_33 gf_H_39 hC.1.house rfl rfl ?_
          refine gz_iload gd_H_shareByRests_36 rfl ?_
          refine gz_lload gd_H_shareByRests_38 rfl ?_
          refine gz_lload_n gd_H_shareByRests_40 rfl rfl ?_
          refine gz_ldiv gd_H_shareByRests_41 (hne) ?_
          refine gz_l2i gd_H_shareByRests_42 ?_
          refine rs_st (i := i) gd_H_shareByRests_43 hC (by omega) (fun M hC => ?_)
          refine gz_aload_n gd_H_shareByRests_44 rfl rfl (gz_isr.r _) ?_
          refine gq_getf (y := .ref (9)) gd_H_shareByRests_45 gf_H_36 hC.1.house rfl rfl ?_
          refine gz_iload gd_H_shareByRests_48 rfl ?_
          refine gz_lload gd_H_shareByRests_50 rfl ?_
          refine gz_lload_n gd_H_shareByRests_52 rfl rfl ?_
          refine gz_lrem gd_H_shareByRests_53 (hne) ?_
          refine rs_rs (i := i) gd_H_shareByRests_54 hC (by omega) (fun M hC => ?_)
          refine gz_iload gd_H_shareByRests_55 rfl ?_
          refine gz_aload_n gd_H_shareByRests_57 rfl rfl (gz_isr.r _) ?_
          refine gq_getf (y := .ref (10)) gd_H_shareByRests_58 gf_H_39 hC.1.house rfl rfl ?_
          refine gz_iload gd_H_shareByRests_61 rfl ?_
          refine rc_st (i := i) gd_H_shareByRests_63 hC (by omega) ?_
          rw [show (gG.w_rs (gG.w_st g (ct1 g.st i ((nI N).toInt64 * g.sm i / al).toInt32)) (ct1 (gG.w_st g (ct1 g.st i ((nI N).toInt64 * g.sm i / al).toInt32)).rs i ((nI N).toInt64 * g.sm i - (nI N).toInt64 * g.sm i / al * al))).st i = ((nI N).toInt64 * g.sm i / al).toInt32 from ct1_at]
          refine gq_isub (z := _) gd_H_shareByRests_64 rfl ?_
          refine gz_istore gd_H_shareByRests_65 (Nat.le_of_ble_eq_true rfl) trivial ?_
          refine gz_iinc (v := nI (i + 1)) gd_H_shareByRests_67 rfl (nI_1 i) (Nat.le_of_ble_eq_true rfl) rfl ?_
          refine gz_goto (tgt := 13) gd_H_shareByRests_70 (by decide) ?_
          have esb : y_sB (nI N) al S L (i + 1) = _ := rfl
          have ev : g.sm i = (y_sB (nI N) al S L i).2.1 110 i := e3 i (by omega)
          rw [ev] at hC ⊢
          have el : ∀ (z : Int32), (y_sB (nI N) al S L i).2.2 - z = (y_sB (nI N) al S L i).2.2 - z := fun _ => rfl
          refine ih (i + 1) (by omega) _ _ _ _ hC (fun j hj => ?_) (fun j hj => ?_) (fun j hj => ?_)
          · show ct1 g.st i _ j = gs_set _ 112 i _ 112 j
            by_cases c : j = i
            · rw [c, ct1_at, gs_same]
            · rw [ct1_ne c, gs_ne (fun y => c y.2)]
              exact e1 j hj
          · show ct1 g.rs i _ j = gl_set _ 111 i _ 111 j
            by_cases c : j = i
            · rw [c, ct1_at, gl_same]
            · rw [ct1_ne c, gl_ne c]
              exact e2 j hj
          · exact (e3 j hj).trans sB_110.symm
    exact loop 6 0 (by omega) none none _ _ hC hst hrs hsm
  ·
    refine gz_return gd_H_shareByRests_6 rfl ?_
    exact absurd ((lg_cmp_gt al 0).2 hal) h3

theorem al_zero {x : Int64} (h : 0 ≤ x.toInt) (h2 : ¬ 0 < x) : x = 0 := by
  apply Int64.toInt_inj.1
  have := mt Int64.lt_iff_toInt_lt.2 h2
  rw [show (0 : Int64).toInt = 0 from rfl] at this ⊢
  omega
theorem bnd_ok {x : Int32} (h : ¬ (x < 1 ∨ 1000 < x)) : 1 ≤ x.toInt ∧ x.toInt ≤ 1000 := by
  obtain ⟨h1, h2⟩ := not_or.1 h
  have a1 := mt Int32.lt_iff_toInt_lt.2 h1
  have a2 := mt Int32.lt_iff_toInt_lt.2 h2
  rw [show (1 : Int32).toInt = 1 from rfl] at a1
  rw [show (1000 : Int32).toInt = 1000 from rfl] at a2
  omega
theorem ru_ok {x : Int32} (h : ¬ (x < 0 ∨ 2 < x)) (h2 : ¬ x = 2) : ∃ e, e ≤ 2 ∧ x + 1 = nI e := by
  obtain ⟨h1, h3⟩ := not_or.1 h
  have a1 := mt Int32.lt_iff_toInt_lt.2 h1
  have a2 := mt Int32.lt_iff_toInt_lt.2 h3
  rw [show (0 : Int32).toInt = 0 from rfl] at a1
  rw [show (2 : Int32).toInt = 2 from rfl] at a2
  have h4 : x.toInt ≠ 2 := fun e => h2 (Int32.toInt_inj.1 e)
  obtain ⟨e1, e2⟩ := left_nI (x := x) (by omega)
  refine ⟨y_left x + 1, by unfold y_left; omega, ?_⟩
  exact (congrArg (fun z : Int32 => z + 1) e1).trans (nI_add (y_left x) 1)
theorem h_seats {l : Launch} {D : gzD} {K : gzK} {M : gzM} {n nc ns : Nat} {M0 : gzM} {b : Nat} {v : gV} {g : gG} {T : CT} (hC : RC M0 b v g T M n nc ns)(hD : RM D) (hb : b + 1000 ≤ 300000) (hls : l.stackTraces = false) {xo xn ru xq : Int32} (hB : Bd T) (hpos : ∀ o, o < 12 → 0 ≤ (y_sA (sm0 (T.w_code 0) o) 6).toInt) (k : ∀ v g M n nc ns, RC M0 (b + 560) v g ((z_seats T xo xn ru xq).2) M n nc ns → ((z_seats T xo xn ru xq).2).code = 0 → K (.inl (some (.int (z_seats T xo xn ru xq).1))) M n nc ns) (kx : ∀ e ci g M n nc ns, RC M0 (b + 560) v g ((z_seats T xo xn ru xq).2) M n nc ns → M e = some (.inr (ci, [])) → (((z_seats T xo xn ru xq).2).code, ci) ∈ ([(1, 8), (2, 9)] : List (Int32 × Nat)) → K (.inr e) M n nc ns) : GZ l P1 D F_H_seats K 0 [some (.ref 3), some (.int xo), some (.int xn), some (.int ru), some (.int xq), none, none, none] [] M n nc ns := by
  replace hC := hC.code 0
  refine gz_iload_n gd_H_seats_0 rfl rfl ?_
  refine gz_static1 gd_H_seats_1 gs_H_seats_1 (Nat.le_of_ble_eq_true rfl) (Nat.le_of_ble_eq_true rfl) ?_
  refine h_reqOffice hC hD (by omega) hls (fun o ho e0 => ?_) (fun eo ex M1 n1 nc1 ns1 hC hx => GT.out rfl ?_)
  ·
    subst e0
    have eo := inR_s ho (show 12 < 2 ^ 31 by decide)
    refine gz_iload gd_H_seats_4 rfl ?_
    refine gz_static1 gd_H_seats_6 gs_H_seats_6 (Nat.le_of_ble_eq_true rfl) (Nat.le_of_ble_eq_true rfl) ?_
    refine h_reqOption hC hD (by omega) hls (fun q hq e0 => ?_) (fun eq ex M1 n1 nc1 ns1 hC hx => GT.out rfl ?_)
    ·
      subst e0
      have eq := inR_s hq (show 6 < 2 ^ 31 by decide)
      refine gz_iload_n gd_H_seats_9 rfl rfl ?_
      refine gz_iconst (v := 1) gd_H_seats_10 (by decide) ?_
      refine gz_icmp_lt (tgt := 21) gd_H_seats_11 (by decide) (fun h11 => ?_) (fun h11 => ?_)
      ·
        have hrx := hC.room hD (by omega)
        refine gz_throwW hls gt_H_seats_21 gd_H_seats_21 gd_H_seats_24 gd_H_seats_25 gd_H_seats_28 gd_H_seats_31 rfl (Nat.le_of_ble_eq_true rfl) (Nat.le_of_ble_eq_true rfl) (by omega) (by omega) ?_
        simp only [z_seats, eo, eq, if_pos (show xn < 1 ∨ 1000 < xn from Or.inl h11)] at kx
        exact kx _ _ _ _ _ _ _ ((((hC.alloc (fun j hj => gz_up_n hj) (by decide)).1).le (by omega)).recode 2) gz_up_s (by show ((2 : Int32), _) ∈ _; decide)
      ·
        refine gz_iload_n gd_H_seats_14 rfl rfl ?_
        refine gz_sipush (v := 1000) gd_H_seats_15 (by decide) ?_
        refine gz_icmp_le (tgt := 32) gd_H_seats_18 (by decide) (fun h18 => ?_) (fun h18 => ?_)
        ·
          have w1 : ¬ (xn < 1 ∨ 1000 < xn) := fun z => z.elim h11 (fun y => Int32.not_le.2 y h18)
          refine gz_iload_n gd_H_seats_32 rfl rfl ?_
          refine gz_if_lt (tgt := 41) gd_H_seats_33 (by decide) (fun h33 => ?_) (fun h33 => ?_)
          ·
            have hrx := hC.room hD (by omega)
            refine gz_throwW hls gt_H_seats_41 gd_H_seats_41 gd_H_seats_44 gd_H_seats_45 gd_H_seats_48 gd_H_seats_51 rfl (Nat.le_of_ble_eq_true rfl) (Nat.le_of_ble_eq_true rfl) (by omega) (by omega) ?_
            simp only [z_seats, eo, eq, if_neg w1, if_pos (show ru < 0 ∨ 2 < ru from Or.inl h33)] at kx
            exact kx _ _ _ _ _ _ _ ((((hC.alloc (fun j hj => gz_up_n hj) (by decide)).1).le (by omega)).recode 2) gz_up_s (by show ((2 : Int32), _) ∈ _; decide)
          ·
            refine gz_iload_n gd_H_seats_36 rfl rfl ?_
            refine gz_iconst (v := 2) gd_H_seats_37 (by decide) ?_
            refine gz_icmp_le (tgt := 52) gd_H_seats_38 (by decide) (fun h38 => ?_) (fun h38 => ?_)
            ·
              have w2 : ¬ (ru < 0 ∨ 2 < ru) := fun z => z.elim h33 (fun y => Int32.not_le.2 y h38)
              refine gz_lconst (v := 0) gd_H_seats_52 (by decide) ?_
              refine gz_lstore gd_H_seats_53 (Nat.le_of_ble_eq_true rfl) rfl ?_
              refine gz_iconst (v := 0) gd_H_seats_55 (by decide) ?_
              refine gz_istore gd_H_seats_56 (Nat.le_of_ble_eq_true rfl) trivial ?_
              have loop : ∀ (j i : Nat), i + j = 6 → ∀ g M, RC M0 b v g (T.w_code 0) M n nc ns → (∀ z, z < i → g.sm z = sm0 (T.w_code 0) o 110 z) → GZ l P1 D F_H_seats K 58 [some (.ref 3), some (.int (nI o)), some (.int xn), some (.int ru), some (.int (nI q)), some (.long (y_sA (sm0 (T.w_code 0) o) i)), none, some (.int (nI i))] [] M n nc ns := by
                intro j
                induction j with
                | zero =>
                  intro i hi g M hC hz
                  refine gz_iload gd_H_seats_58 rfl ?_
                  refine gz_bipush (v := 6) gd_H_seats_60 (by decide) ?_
                  refine gz_icmp_ge (tgt := 101) gd_H_seats_62 (by decide) (fun h62 => ?_) (fun h62 => ?_)
                  ·
                    replace h62 := (nI_leI (a := 6) (b := i) (by omega) (by omega)).1 h62
                    have e6 : i = 6 := by omega
                    rw [e6] at hz ⊢
                    have hsa := hpos o ho
                    generalize hal : y_sA (sm0 (T.w_code 0) o) 6 = al at hsa ⊢
                    simp only [z_seats, eo, eq, if_neg w1, if_neg w2] at k
                    obtain ⟨hN1, hN2⟩ := left_nI (show 0 ≤ xn.toInt by have := (bnd_ok w1).1; omega)
                    have hNb := (bnd_ok w1).2
                    refine gz_lload gd_H_seats_101 rfl ?_
                    refine gz_lconst (v := 0) gd_H_seats_103 (by decide) ?_
                    refine gz_lcmp gd_H_seats_104 ?_
                    refine gz_if_gt (tgt := 110) gd_H_seats_105 (by decide) (fun h105 => ?_) (fun h105 => ?_)
                    ·
                      refine gz_iload_n gd_H_seats_110 rfl rfl ?_
                      refine gz_iconst (v := 2) gd_H_seats_111 (by decide) ?_
                      refine gz_icmp_ne (tgt := 125) gd_H_seats_112 (by decide) (fun h112 => ?_) (fun h112 => ?_)
                      ·
                        refine gz_aload_n gd_H_seats_125 rfl rfl (gz_isr.r _) ?_
                        refine gz_iload_n gd_H_seats_126 rfl rfl ?_
                        refine gz_iload_n gd_H_seats_127 rfl rfl ?_
                        refine gz_iconst (v := 1) gd_H_seats_128 (by decide) ?_
                        refine gq_iadd (z := (ru + 1)) gd_H_seats_129 rfl ?_
                        refine gz_virtual2 gd_H_seats_130 hC.1.house rfl rfl gs_H_seats_130 (Nat.le_of_ble_eq_true rfl) (Nat.le_of_ble_eq_true rfl) ?_
                        have hne : ¬ al = 0 := fun e => by rw [e] at h105; exact absurd ((lg_cmp_gt 0 0).1 h105) (by decide)
                        obtain ⟨e, he, hre⟩ := ru_ok w2 h112
                        rw [hre]
                        have hxl : y_left xn ≤ 1000 := by unfold y_left; omega
                        rw [hN1]
                        refine h_divs (N := y_left xn) (e := e) (ru := ru) hC hxl he h112 hre (S0 := fun _ _ => 0) (L0 := sm0 (T.w_code 0) o) (fun _ _ => rfl) hz (fun g2 M2 hC hfin => ?_)
                        refine gz_aload_n gd_H_seats_133 rfl rfl (gz_isr.r _) ?_
                        refine gq_getf (y := .ref (10)) gd_H_seats_134 gf_H_39 hC.1.house rfl rfl ?_
                        refine gz_iload gd_H_seats_137 rfl ?_
                        refine rc_st (i := q) gd_H_seats_139 hC hq ?_
                        refine gz_ireturn gd_H_seats_140 rfl rfl ?_
                        rw [hfin q hq]
                        rw [seat_r (S := fun _ _ => 0) (L := sm0 (T.w_code 0) o) (fun _ _ => rfl) (fun z _ => by simp [sm0]) (by rw [hal]; exact hne) h112 hq] at k
                        exact k _ _ _ _ _ _ (hC.le (by omega)) rfl
                      ·
                        subst h112
                        refine gz_aload_n gd_H_seats_115 rfl rfl (gz_isr.r _) ?_
                        refine gz_iload_n gd_H_seats_116 rfl rfl ?_
                        refine gz_lload gd_H_seats_117 rfl ?_
                        refine gz_virtual2 gd_H_seats_119 hC.1.house rfl rfl gs_H_seats_119 (Nat.le_of_ble_eq_true rfl) (Nat.le_of_ble_eq_true rfl) ?_
                        have hne : ¬ al = 0 := fun e => by rw [e] at h105; exact absurd ((lg_cmp_gt 0 0).1 h105) (by decide)
                        rw [hN1] at k ⊢
                        refine h_rests (N := y_left xn) hC ((lg_cmp_gt al 0).1 h105) (S := fun _ j => g.st j) (L := fun a j => if a = 110 then g.sm j else g.rs j) (fun j _ => rfl) (fun j _ => (if_neg (by decide)).symm) (fun j _ => (if_pos rfl).symm) (fun g2 M2 hC hfin => ?_)
                        refine gz_goto (tgt := 133) gd_H_seats_122 (by decide) ?_
                        refine gz_aload_n gd_H_seats_133 rfl rfl (gz_isr.r _) ?_
                        refine gq_getf (y := .ref (10)) gd_H_seats_134 gf_H_39 hC.1.house rfl rfl ?_
                        refine gz_iload gd_H_seats_137 rfl ?_
                        refine rc_st (i := q) gd_H_seats_139 hC hq ?_
                        refine gz_ireturn gd_H_seats_140 rfl rfl ?_
                        rw [hfin q hq]
                        rw [seat_2' (S := fun _ j => g.st j) (L := fun a j => if a = 110 then g.sm j else g.rs j) (fun z hz2 => (if_pos rfl).trans ((hz z hz2).trans (by simp [sm0]))) hal hne hq] at k
                        exact k _ _ _ _ _ _ (hC.le (by omega)) rfl
                    ·
                      refine gz_iconst (v := 0) gd_H_seats_108 (by decide) ?_
                      refine gz_ireturn gd_H_seats_109 rfl rfl ?_
                      have e0 : al = 0 := al_zero hsa (fun z => h105 ((lg_cmp_gt al 0).2 z))
                      rw [seat_0 (L := sm0 (T.w_code 0) o) (fun z _ => by simp [sm0]) (hal.trans e0)] at k
                      exact k _ _ _ _ _ _ (hC.le (by omega)) rfl
                  ·
                    replace h62 := mt (nI_leI (a := 6) (b := i) (by omega) (by omega)).2 h62
                    omega
                | succ j ih =>
                  intro i hi g M hC hz
                  refine gz_iload gd_H_seats_58 rfl ?_
                  refine gz_bipush (v := 6) gd_H_seats_60 (by decide) ?_
                  refine gz_icmp_ge (tgt := 101) gd_H_seats_62 (by decide) (fun h62 => ?_) (fun h62 => ?_)
                  ·
                    replace h62 := (nI_leI (a := 6) (b := i) (by omega) (by omega)).1 h62
                    omega
                  ·
                    replace h62 := mt (nI_leI (a := 6) (b := i) (by omega) (by omega)).2 h62
                    refine gz_aload_n gd_H_seats_65 rfl rfl (gz_isr.r _) ?_
                    refine gq_getf (y := .ref (8)) gd_H_seats_66 gf_H_32 hC.1.house rfl rfl ?_
                    refine gz_iload gd_H_seats_69 rfl ?_
                    refine gz_aload_n gd_H_seats_71 rfl rfl (gz_isr.r _) ?_
                    refine gq_getf (y := .ref (5)) gd_H_seats_72 gf_H_17 hC.1.house rfl rfl ?_
                    refine gz_iload_n gd_H_seats_75 rfl rfl ?_
                    refine rc_offs (o := o) gd_H_seats_76 hC (by omega) ?_
                    refine gz_iload gd_H_seats_77 rfl ?_
                    refine gz_virtual1 gd_H_seats_79 (hC.1.off o (by omega)) rfl rfl gs_H_seats_79 (Nat.le_of_ble_eq_true rfl) (Nat.le_of_ble_eq_true rfl) ?_
                    refine h_ssum (T := T.w_code 0) hC hB.w_code ho (by omega) ?_
                    refine rs_sm (i := i) gd_H_seats_82 hC (by omega) (fun M hC => ?_)
                    refine gz_lload gd_H_seats_83 rfl ?_
                    refine gz_aload_n gd_H_seats_85 rfl rfl (gz_isr.r _) ?_
                    refine gq_getf (y := .ref (8)) gd_H_seats_86 gf_H_32 hC.1.house rfl rfl ?_
                    refine gz_iload gd_H_seats_89 rfl ?_
                    refine rc_sm (i := i) gd_H_seats_91 hC (by omega) ?_
                    refine gz_ladd gd_H_seats_92 ?_
                    refine gz_lstore gd_H_seats_93 (Nat.le_of_ble_eq_true rfl) rfl ?_
                    refine gz_iinc (v := nI (i + 1)) gd_H_seats_95 rfl (nI_1 i) (Nat.le_of_ble_eq_true rfl) trivial ?_
                    refine gz_goto (tgt := 58) gd_H_seats_98 (by decide) ?_
                    have es : y_sum (T.w_code 0) o none i 40 = sm0 (T.w_code 0) o 110 i := by simp [sm0]
                    rw [show (gG.w_sm g (ct1 g.sm i (y_sum (T.w_code 0) o none i 40))).sm i = sm0 (T.w_code 0) o 110 i from ct1_at.trans es]
                    refine ih (i + 1) (by omega) _ _ hC (fun z hz2 => ?_)
                    show ct1 g.sm i (y_sum (T.w_code 0) o none i 40) z = _
                    by_cases c : z = i
                    · rw [c, ct1_at, es]
                    · rw [ct1_ne c]
                      exact hz z (by omega)
              exact loop 6 0 (by omega) _ _ hC (fun z hz => absurd hz (Nat.not_lt_zero _))
            ·
              have hrx := hC.room hD (by omega)
              refine gz_throwW hls gt_H_seats_41 gd_H_seats_41 gd_H_seats_44 gd_H_seats_45 gd_H_seats_48 gd_H_seats_51 rfl (Nat.le_of_ble_eq_true rfl) (Nat.le_of_ble_eq_true rfl) (by omega) (by omega) ?_
              simp only [z_seats, eo, eq, if_neg w1, if_pos (show ru < 0 ∨ 2 < ru from Or.inr (Int32.not_le.1 h38))] at kx
              exact kx _ _ _ _ _ _ _ ((((hC.alloc (fun j hj => gz_up_n hj) (by decide)).1).le (by omega)).recode 2) gz_up_s (by show ((2 : Int32), _) ∈ _; decide)
        ·
          have hrx := hC.room hD (by omega)
          refine gz_throwW hls gt_H_seats_21 gd_H_seats_21 gd_H_seats_24 gd_H_seats_25 gd_H_seats_28 gd_H_seats_31 rfl (Nat.le_of_ble_eq_true rfl) (Nat.le_of_ble_eq_true rfl) (by omega) (by omega) ?_
          simp only [z_seats, eo, eq, if_pos (show xn < 1 ∨ 1000 < xn from Or.inr (Int32.not_le.1 h18))] at kx
          exact kx _ _ _ _ _ _ _ ((((hC.alloc (fun j hj => gz_up_n hj) (by decide)).1).le (by omega)).recode 2) gz_up_s (by show ((2 : Int32), _) ∈ _; decide)
    ·
      simp only [z_seats, eo, eq] at kx
      exact kx _ _ _ _ _ _ _ ((hC.le (by omega)).recode 1) hx (by show ((1 : Int32), _) ∈ _; decide)
  ·
    simp only [z_seats, eo] at kx
    exact kx _ _ _ _ _ _ _ ((hC.le (by omega)).recode 1) hx (by show ((1 : Int32), _) ∈ _; decide)

