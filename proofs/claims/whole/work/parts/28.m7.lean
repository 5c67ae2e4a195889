/-! The reference: its face, second part. Printed by wip/whole/m7.py -/
theorem pot_ow1 {T : CT} {o p : Nat} (ho : o < 12) (hp : p < 40) (hw : T.ow o p = true) : pot (y_own T o p) ≤ pot T := by
  have := pot_own (T := T) ho hp
  rw [hw] at this
  have e1 : bN true = 1 := rfl
  omega
theorem pot_first {T V : CT} {o c : Nat} (ho : o < 12) (hc : c < 12) (hf : y_first T o c = some V) : pot V ≤ pot T := by
  obtain ⟨x, xs, hx, hm, hw, rfl⟩ := y_first_wt hf
  have h1 := potW_u (T := T) (o := c) (xs := xs) hc
  have h2 := pot_set (T := T.w_wt (ct1 T.wt c xs)) (o := o) (p := x.1) (v := x.2) (s := some c) ho
  rw [hx] at h1
  simp only [List.length_cons] at h1
  have e1 : potL (T.w_wt (ct1 T.wt c xs)) = potL T := rfl
  have e2 : potO (T.w_wt (ct1 T.wt c xs)) = potO T := rfl
  unfold pot at h2 ⊢
  omega
theorem pot_r1 {T : CT} {o : Nat} (ho : o < 12) : ∀ i, i ≤ 40 → pot (y_r1 T o i).1 ≤ pot T
  | 0, _ => Nat.le_refl _
  | i + 1, hi => by
    have := pot_r1 (T := T) ho i (by omega)
    unfold y_r1
    split
    · rename_i hw
      exact Nat.le_trans (pot_ow1 ho (by omega) hw) this
    · exact this
theorem pot_wh {o c : Nat} (ho : o < 12) (hc : c < 12) : ∀ (k : Nat) (T : CT) (m : Bool), pot (y_wh o c k T m).1 ≤ pot T
  | 0, _, _ => Nat.le_refl _
  | k + 1, T, m => by
    unfold y_wh
    split
    · exact Nat.le_refl _
    · rename_i V hf
      exact Nat.le_trans (pot_wh ho hc k V true) (pot_first ho hc hf)
theorem pot_r2 {R : CT × Bool} {o : Nat} (ho : o < 12) : ∀ i, i ≤ 12 → pot (y_r2 R o i).1 ≤ pot R.1
  | 0, _ => Nat.le_refl _
  | i + 1, hi => by
    have := pot_r2 (R := R) ho i (by omega)
    unfold y_r2
    split
    · exact Nat.le_trans (pot_wh ho (by omega) _ _ _) this
    · exact this
theorem pot_rd {T : CT} {o : Nat} (ho : o < 12) : pot (y_rd T o).1 ≤ pot T := Nat.le_trans (pot_r2 ho 12 (Nat.le_refl _)) (pot_r1 ho 40 (Nat.le_refl _))
theorem pot_all {o : Nat} (ho : o < 12) : ∀ (k : Nat) (T : CT), pot (y_all o k T) ≤ pot T
  | 0, _ => Nat.le_refl _
  | k + 1, T => by
    unfold y_all
    split
    · exact Nat.le_trans (pot_all ho k _) (pot_rd ho)
    · exact pot_rd ho
theorem pot_try {T : CT} {o : Nat} (ho : o < 12) : pot (y_try T o) ≤ pot T := pot_all ho _ _
theorem try_JI {T : CT} {o : Nat} (h : JI T) (ho : o < 12) : JI (y_try T o) := (all_J ho _ _ h).1
theorem pot_away {T : CT} (h : JI T) {o : Nat} (ho : o < 12) (hP : pot T + 40 ≤ 9000) : pot (y_away T o) ≤ pot T + 40 := by
  unfold y_away
  split
  · omega
  · rename_i a ha
    have ha' := h.1.par o a ho ha
    have h1 := pot_end (T := T) ho
    have h2 := (un_J (o := o) (h.end ho) ha' (by omega) 40 (Nat.le_refl _)).2
    have h3 := pot_try (T := y_un (y_end T o) a o 40) ha'
    omega
theorem JI.own2 {T : CT} (h : JI T) {o p : Nat} (ho : o < 12) (hp : p < 40) (hP : pot T < 9000) (hV : 0 < T.last p) : JI (y_own T o p) := by
  have h1 := pot_own (T := T) ho hp
  have h2 := pot_line (T := T) ho
  refine ⟨h.1.own ho hp hV (by unfold pot at hP; omega), by omega, fun a q ha hq hx => ?_⟩
  rw [y_own_last]
  rw [y_own_ow] at hx
  by_cases e : a = o ∧ q = p
  · obtain ⟨rfl, rfl⟩ := e
    exact hV
  · rw [ct2_n e] at hx
    exact h.2.2 a q ha hq hx
theorem lineL {T : CT} {o : Nat} (ho : o < 12) (hP : pot T < 9000) : (T.line o).length < 9000 := by
  have := pot_line (T := T) ho
  unfold pot at hP
  omega
theorem JI.p_home {T : CT} (h : JI T) {p v : Nat} (hv : v < 12) : JI (T.p_home p v) := ⟨h.1.w_home hv, h.2.1, h.2.2⟩
theorem JI.p_up {T : CT} (h : JI T) {o : Nat} {v : Bool} : JI (T.p_up o v) := ⟨h.1.w_up, h.2.1, h.2.2⟩
theorem JI.p_ow0 {T : CT} (h : JI T) {o p : Nat} (ho : o < 12) (hp : p < 40) : JI (T.p_ow o p false) ∧ pot (T.p_ow o p false) ≤ pot T := by
  have h2 := potO_u (T := T) (v := false) ho hp
  have e : bN false = 0 := rfl
  have e1 : potL (T.p_ow o p false) = potL T := rfl
  have e2 : potW (T.p_ow o p false) = potW T := rfl
  have e3 : potO (T.p_ow o p false) = potO (T.w_ow (ct2 T.ow o p false)) := rfl
  have h3 : pot (T.p_ow o p false) ≤ pot T := by
    unfold pot
    omega
  refine ⟨⟨h.1.w_ow, Nat.le_trans h3 h.2.1, fun a q ha hq hx => ?_⟩, h3⟩
  replace hx : ct2 T.ow o p false a q = true := hx
  show 0 < T.last q
  by_cases e : a = o ∧ q = p
  · obtain ⟨rfl, rfl⟩ := e
    rw [ct2_s] at hx
    cases hx
  · rw [ct2_n e] at hx
    exact h.2.2 a q ha hq hx
def y_rv (T : CT) (o : Nat) : Nat → CT × Nat
  | 0 => (T, 0)
  | i + 1 => if (y_rv T o i).1.there i = true then (if (y_rv T o i).1.home i = o then (if (y_rv T o i).1.last i = 0 then y_rv T o i else (y_own (y_rv T o i).1 o i, (y_rv T o i).2 + bN (y_may (y_rv T o i).1 o i o))) else y_rv T o i) else y_rv T o i
theorem rv_J {T : CT} {o : Nat} (h : JI T) (ho : o < 12) (hP : pot T + 40 ≤ 9000) : ∀ i, i ≤ 40 → JI (y_rv T o i).1 ∧ pot (y_rv T o i).1 ≤ pot T + i
  | 0, _ => ⟨h, Nat.le_refl _⟩
  | i + 1, hi => by
    obtain ⟨h1, h2⟩ := rv_J h ho hP i (by omega)
    unfold y_rv
    split
    · split
      · split
        · exact ⟨h1, by omega⟩
        · rename_i hz
          have h3 := pot_own (T := (y_rv T o i).1) (o := o) (p := i) ho (by omega)
          exact ⟨h1.own2 ho (by omega) (by omega) (by omega), by show pot (y_own (y_rv T o i).1 o i) ≤ _; omega⟩
      · exact ⟨h1, by omega⟩
    · exact ⟨h1, by omega⟩
def z_revive (T : CT) (a : Int32) : Int32 × CT := match inR a 12 with
  | none => (0, T.w_code 1)
  | some o => if T.up o = true then (0, T.w_code 2) else (nI (y_rv ((T.w_code 0).p_up o true) o 40).2, (y_rv ((T.w_code 0).p_up o true) o 40).1)
theorem m_revive {l : Launch} {D : gzD} {K : gzK} {M : gzM} {n nc ns : Nat} {M0 : gzM} {S : gS} {L : gL} {T : CT} (hR : RF M0 S L M) (hT : Rel 12 true S T) {xo : Int32} (hI : JI T) (hP : pot T + 40 ≤ 9000) (k : ∀ S M, RF M0 S L M → Rel 12 true S (z_revive T xo).2 → K (.inl (some (.int (z_revive T xo).1))) M n nc ns) : GZ l P1 D F_M_revive K 0 [some (.ref 83), some (.int xo), none, none] [] M n nc ns := by
  refine gz_aload_n gd_M_revive_0 rfl rfl (gz_isr.r _) ?_
  refine gz_iload_n gd_M_revive_1 rfl rfl ?_
  refine gz_static1 gd_M_revive_2 gs_M_revive_2 (Nat.le_of_ble_eq_true rfl) (Nat.le_of_ble_eq_true rfl) ?_
  refine m_isOffice (fun ha hb => ?_) (fun ha => ?_)
  ·
    obtain ⟨o, ho, rfl⟩ := of_ix ha hb
    have eo := inR_s ho (show 12 < 2 ^ 31 by decide)
    refine gz_if_ne (tgt := 12) gd_M_revive_5 (by decide) (fun h5 => ?_) (fun h5 => ?_)
    ·
      refine gz_aload_n gd_M_revive_12 rfl rfl (gz_isr.r _) ?_
      refine md_getf gd_M_revive_13 gf_M_35 hR rfl ?_
      refine gz_iload_n gd_M_revive_16 rfl rfl ?_
      refine mt_zaload (a := 92) (i := o) gd_M_revive_17 hR rfl rfl (show _ < 12 from (by omega)) (hT.up o (by omega)) ?_
      refine gz_if_eq (tgt := 25) gd_M_revive_18 (by decide) (fun h18 => ?_) (fun h18 => ?_)
      ·
        replace h18 := bI_0.1 h18
        refine gz_iconst (v := 0) gd_M_revive_25 (by decide) ?_
        refine mt_puti (T := T.w_code 0) gd_M_revive_26 gf_M_100 gr_M_revive_6_0 hR rfl hT.s_code (fun S M hR hT => ?_)
        refine gz_aload_n gd_M_revive_29 rfl rfl (gz_isr.r _) ?_
        refine mt_geti gd_M_revive_30 gf_M_100 hR rfl (show _ = (0 : Int32) from hT.code) ?_
        refine gz_if_le (tgt := 38) gd_M_revive_33 (by decide) (fun h33 => ?_) (fun h33 => ?_)
        ·
          refine gz_aload_n gd_M_revive_38 rfl rfl (gz_isr.r _) ?_
          refine md_getf gd_M_revive_39 gf_M_35 hR rfl ?_
          refine gz_iload_n gd_M_revive_42 rfl rfl ?_
          refine gz_iconst (v := 1) gd_M_revive_43 (by decide) ?_
          refine mt_zastore (T := ((T.w_code 0).p_up o true)) (a := 92) (i := o) (t := true) gd_M_revive_44 hR rfl rfl (show _ < 12 from (by omega)) (hT.s_up ho rfl) (fun S M hR hT => ?_)
          refine gz_iconst (v := 0) gd_M_revive_45 (by decide) ?_
          refine gz_istore_n gd_M_revive_46 rfl (Nat.le_of_ble_eq_true rfl) rfl ?_
          refine gz_iconst (v := 0) gd_M_revive_47 (by decide) ?_
          refine gz_istore_n gd_M_revive_48 rfl (Nat.le_of_ble_eq_true rfl) rfl ?_
          have hJ0 := JI.p_up (o := o) (v := true) (JI.code (v := 0) hI)
          have loop : ∀ (j i : Nat), i + j = 40 → ∀ a, a = (y_rv ((T.w_code 0).p_up o true) o i).2 → ∀ S M, RF M0 S L M → Rel 12 true S (y_rv ((T.w_code 0).p_up o true) o i).1 → GZ l P1 D F_M_revive K 49 [some (.ref 83), some (.int (nI o)), some (.int (nI a)), some (.int (nI i))] [] M n nc ns := by
            intro j
            induction j with
            | zero =>
              intro i hi a ha S M hR hT
              have hJ := rv_J (o := o) hJ0 ho hP i (by omega)
              have hB := hJ.1.1
              refine gz_iload_n gd_M_revive_49 rfl rfl ?_
              refine gz_bipush (v := 40) gd_M_revive_50 (by decide) ?_
              refine gz_icmp_ge (tgt := 106) gd_M_revive_52 (by decide) (fun h52 => ?_) (fun h52 => ?_)
              ·
                replace h52 := (nI_leI (a := 40) (b := i) (by omega) (by omega)).1 h52
                refine gz_iload_n gd_M_revive_106 rfl rfl ?_
                refine gz_ireturn gd_M_revive_107 rfl rfl ?_
                have e40 : i = 40 := by omega
                rw [e40] at ha hT
                simp only [z_revive, eo, if_neg (bf h18)] at k
                rw [ha]
                exact k _ _ hR hT
              ·
                replace h52 := mt (nI_leI (a := 40) (b := i) (by omega) (by omega)).2 h52
                omega
            | succ j ih =>
              intro i hi a ha S M hR hT
              have hJ := rv_J (o := o) hJ0 ho hP i (by omega)
              have hB := hJ.1.1
              refine gz_iload_n gd_M_revive_49 rfl rfl ?_
              refine gz_bipush (v := 40) gd_M_revive_50 (by decide) ?_
              refine gz_icmp_ge (tgt := 106) gd_M_revive_52 (by decide) (fun h52 => ?_) (fun h52 => ?_)
              ·
                replace h52 := (nI_leI (a := 40) (b := i) (by omega) (by omega)).1 h52
                omega
              ·
                replace h52 := mt (nI_leI (a := 40) (b := i) (by omega) (by omega)).2 h52
                refine gz_aload_n gd_M_revive_55 rfl rfl (gz_isr.r _) ?_
                refine md_getf gd_M_revive_56 gf_M_7 hR rfl ?_
                refine gz_iload_n gd_M_revive_59 rfl rfl ?_
                refine mt_zaload (a := 84) (i := i) gd_M_revive_60 hR rfl rfl (show _ < 40 from (by omega)) (hT.there i (by omega)) ?_
                refine gz_if_eq (tgt := 100) gd_M_revive_61 (by decide) (fun h61 => ?_) (fun h61 => ?_)
                ·
                  replace h61 := bI_0.1 h61
                  refine gz_iinc (v := nI (i + 1)) gd_M_revive_100 rfl (nI_1 i) (Nat.le_of_ble_eq_true rfl) rfl ?_
                  refine gz_goto (tgt := 49) gd_M_revive_103 (by decide) ?_
                  have e : y_rv ((T.w_code 0).p_up o true) o (i + 1) = (y_rv ((T.w_code 0).p_up o true) o i) := by
                    conv => lhs; unfold y_rv
                    simp only [if_neg (bf h61)]
                  exact ih (i + 1) (by omega) _ (by rw [e]; exact ha) _ _ hR (by rw [e]; exact hT)
                ·
                  replace h61 := bI_n.1 h61
                  refine gz_aload_n gd_M_revive_64 rfl rfl (gz_isr.r _) ?_
                  refine md_getf gd_M_revive_65 gf_M_13 hR rfl ?_
                  refine gz_iload_n gd_M_revive_68 rfl rfl ?_
                  refine mt_iaload (a := 85) (i := i) gd_M_revive_69 hR rfl rfl (show _ < 40 from (by omega)) (hT.home i (by omega)) ?_
                  refine gz_iload_n gd_M_revive_70 rfl rfl ?_
                  refine gz_icmp_ne (tgt := 100) gd_M_revive_71 (by decide) (fun h71 => ?_) (fun h71 => ?_)
                  ·
                    replace h71 := mt (nI_eq (a := ((y_rv ((T.w_code 0).p_up o true) o i).1).home i) (b := o) (by have := hB.home i (by omega); omega) (by have := hB.home i (by omega); omega)).2 h71
                    refine gz_iinc (v := nI (i + 1)) gd_M_revive_100 rfl (nI_1 i) (Nat.le_of_ble_eq_true rfl) rfl ?_
                    refine gz_goto (tgt := 49) gd_M_revive_103 (by decide) ?_
                    have e : y_rv ((T.w_code 0).p_up o true) o (i + 1) = (y_rv ((T.w_code 0).p_up o true) o i) := by
                      conv => lhs; unfold y_rv
                      simp only [if_pos h61, if_neg h71]
                    exact ih (i + 1) (by omega) _ (by rw [e]; exact ha) _ _ hR (by rw [e]; exact hT)
                  ·
                    replace h71 := (nI_eq (a := ((y_rv ((T.w_code 0).p_up o true) o i).1).home i) (b := o) (by have := hB.home i (by omega); omega) (by have := hB.home i (by omega); omega)).1 h71
                    refine gz_aload_n gd_M_revive_74 rfl rfl (gz_isr.r _) ?_
                    refine md_getf gd_M_revive_75 gf_M_20 hR rfl ?_
                    refine gz_iload_n gd_M_revive_78 rfl rfl ?_
                    refine mt_iaload (a := 87) (i := i) gd_M_revive_79 hR rfl rfl (show _ < 40 from (by omega)) (hT.last i (by omega)) ?_
                    refine gz_if_le (tgt := 100) gd_M_revive_80 (by decide) (fun h80 => ?_) (fun h80 => ?_)
                    ·
                      replace h80 := (nI_le0 (by have := hB.last i (by omega); have := hB.vs; omega)).1 h80
                      refine gz_iinc (v := nI (i + 1)) gd_M_revive_100 rfl (nI_1 i) (Nat.le_of_ble_eq_true rfl) rfl ?_
                      refine gz_goto (tgt := 49) gd_M_revive_103 (by decide) ?_
                      have e : y_rv ((T.w_code 0).p_up o true) o (i + 1) = (y_rv ((T.w_code 0).p_up o true) o i) := by
                        conv => lhs; unfold y_rv
                        simp only [if_pos h61, if_pos h71, if_pos h80]
                      exact ih (i + 1) (by omega) _ (by rw [e]; exact ha) _ _ hR (by rw [e]; exact hT)
                    ·
                      replace h80 := mt (nI_le0 (by have := hB.last i (by omega); have := hB.vs; omega)).2 h80
                      refine gz_iload_n gd_M_revive_83 rfl rfl ?_
                      refine gz_aload_n gd_M_revive_84 rfl rfl (gz_isr.r _) ?_
                      refine gz_iload_n gd_M_revive_85 rfl rfl ?_
                      refine gz_iload_n gd_M_revive_86 rfl rfl ?_
                      refine gz_virtual2 gd_M_revive_87 hR.1 rfl rfl gs_M_revive_87 (Nat.le_of_ble_eq_true rfl) (Nat.le_of_ble_eq_true rfl) ?_
                      refine m_setsOwn (T := (y_rv ((T.w_code 0).p_up o true) o i).1) (o := o) (p := i) hR hT ho (by omega) (by have := hB.shown o i ho (by omega); have := hB.vs; omega) (fun z hz => hB.src o i z ho (by omega) hz) (fun z hz => hB.par o z ho hz) (Nat.le_trans (hB.last i (by omega)) hB.vs) (by omega) (lineL ho (by have := hJ.2; have e : pot ((T.w_code 0).p_up o true) = pot T := rfl; omega)) hB.postN (fun S M hR hT => ?_)
                      refine gz_if_eq (tgt := 97) gd_M_revive_90 (by decide) (fun h90 => ?_) (fun h90 => ?_)
                      ·
                        replace h90 := bI_0.1 h90
                        refine gz_iconst (v := 0) gd_M_revive_97 (by decide) ?_
                        refine gq_iadd (z := nI (a + 0)) gd_M_revive_98 (nI_add a 0) ?_
                        refine gz_istore_n gd_M_revive_99 rfl (Nat.le_of_ble_eq_true rfl) rfl ?_
                        refine gz_iinc (v := nI (i + 1)) gd_M_revive_100 rfl (nI_1 i) (Nat.le_of_ble_eq_true rfl) rfl ?_
                        refine gz_goto (tgt := 49) gd_M_revive_103 (by decide) ?_
                        have e : y_rv ((T.w_code 0).p_up o true) o (i + 1) = (y_own (y_rv ((T.w_code 0).p_up o true) o i).1 o i, (y_rv ((T.w_code 0).p_up o true) o i).2 + bN (y_may (y_rv ((T.w_code 0).p_up o true) o i).1 o i o)) := by simp only [y_rv, if_pos h61, if_pos h71, if_neg h80]
                        exact ih (i + 1) (by omega) _ (by rw [e, ha, h90]; rfl) _ _ hR (by rw [e]; exact hT)
                      ·
                        replace h90 := bI_n.1 h90
                        refine gz_iconst (v := 1) gd_M_revive_93 (by decide) ?_
                        refine gz_goto (tgt := 98) gd_M_revive_94 (by decide) ?_
                        refine gq_iadd (z := nI (a + 1)) gd_M_revive_98 (nI_add a 1) ?_
                        refine gz_istore_n gd_M_revive_99 rfl (Nat.le_of_ble_eq_true rfl) rfl ?_
                        refine gz_iinc (v := nI (i + 1)) gd_M_revive_100 rfl (nI_1 i) (Nat.le_of_ble_eq_true rfl) rfl ?_
                        refine gz_goto (tgt := 49) gd_M_revive_103 (by decide) ?_
                        have e : y_rv ((T.w_code 0).p_up o true) o (i + 1) = (y_own (y_rv ((T.w_code 0).p_up o true) o i).1 o i, (y_rv ((T.w_code 0).p_up o true) o i).2 + bN (y_may (y_rv ((T.w_code 0).p_up o true) o i).1 o i o)) := by simp only [y_rv, if_pos h61, if_pos h71, if_neg h80]
                        exact ih (i + 1) (by omega) _ (by rw [e, ha, h90]; rfl) _ _ hR (by rw [e]; exact hT)
          exact loop 40 0 (by omega) 0 rfl _ _ hR hT
        ·
          exact absurd h33 (by decide)
      ·
        replace h18 := bI_n.1 h18
        refine gz_iconst (v := 2) gd_M_revive_21 (by decide) ?_
        refine gz_goto (tgt := 26) gd_M_revive_22 (by decide) ?_
        refine mt_puti (T := T.w_code 2) gd_M_revive_26 gf_M_100 gr_M_revive_6_0 hR rfl hT.s_code (fun S M hR hT => ?_)
        refine gz_aload_n gd_M_revive_29 rfl rfl (gz_isr.r _) ?_
        refine mt_geti gd_M_revive_30 gf_M_100 hR rfl (show _ = (2 : Int32) from hT.code) ?_
        refine gz_if_le (tgt := 38) gd_M_revive_33 (by decide) (fun h33 => ?_) (fun h33 => ?_)
        ·
          exact absurd h33 (by decide)
        ·
          refine gz_iconst (v := 0) gd_M_revive_36 (by decide) ?_
          refine gz_ireturn gd_M_revive_37 rfl rfl ?_
          simp only [z_revive, eo, if_pos h18] at k
          exact k _ _ hR hT
    ·
      exact absurd h5 (by decide)
  ·
    have eo := inR_n (n := 11) (by decide) rfl ha
    refine gz_if_ne (tgt := 12) gd_M_revive_5 (by decide) (fun h5 => ?_) (fun h5 => ?_)
    ·
      exact absurd h5 (by decide)
    ·
      refine gz_iconst (v := 1) gd_M_revive_8 (by decide) ?_
      refine gz_goto (tgt := 26) gd_M_revive_9 (by decide) ?_
      refine mt_puti (T := T.w_code 1) gd_M_revive_26 gf_M_100 gr_M_revive_6_0 hR rfl hT.s_code (fun S M hR hT => ?_)
      refine gz_aload_n gd_M_revive_29 rfl rfl (gz_isr.r _) ?_
      refine mt_geti gd_M_revive_30 gf_M_100 hR rfl (show _ = (1 : Int32) from hT.code) ?_
      refine gz_if_le (tgt := 38) gd_M_revive_33 (by decide) (fun h33 => ?_) (fun h33 => ?_)
      ·
        exact absurd h33 (by decide)
      ·
        refine gz_iconst (v := 0) gd_M_revive_36 (by decide) ?_
        refine gz_ireturn gd_M_revive_37 rfl rfl ?_
        simp only [z_revive, eo] at k
        exact k _ _ hR hT

theorem pot_code {T : CT} {v : Int32} : pot (T.w_code v) = pot T := rfl
theorem pot_phome {T : CT} {p v : Nat} : pot (T.p_home p v) = pot T := rfl
def y_tl (T : CT) (o : Nat) : Nat → CT
  | 0 => T
  | i + 1 => if (y_tl T o i).shown o i = 0 then y_tl T o i else y_tell (y_tl T o i) o i ((y_tl T o i).shown o i)
theorem tl_J {T : CT} {o : Nat} (h : JI T) (ho : o < 12) (hP : pot T + 40 ≤ 9000) : ∀ i, i ≤ 40 → JI (y_tl T o i) ∧ pot (y_tl T o i) ≤ pot T + i
  | 0, _ => ⟨h, Nat.le_refl _⟩
  | i + 1, hi => by
    obtain ⟨h1, h2⟩ := tl_J h ho hP i (by omega)
    unfold y_tl
    split
    · exact ⟨h1, by omega⟩
    · have h3 := pot_tell (T := y_tl T o i) (o := o) (p := i) (v := (y_tl T o i).shown o i) ho
      refine ⟨⟨h1.1.tell ho (by omega) (h1.1.shown o i ho (by omega)) (lineL ho (by omega)), by omega, ?_⟩, by omega⟩
      rw [y_tell_ow, y_tell_last]
      exact h1.2.2
def y_hg (T : CT) (o u : Nat) : CT := ((y_away T o).p_par o (some u)).p_ep o ((y_away T o).ep o + 1)
def y_hang (T : CT) (o u : Nat) : CT := y_tl (y_hg T o u) o 40
def z_hang (T : CT) (a b : Int32) : Int32 × CT := match inR a 12 with
  | none => (0, T.w_code 1)
  | some o => match inR b 12 with
    | none => (0, T.w_code 1)
    | some u => if o = 0 then (0, T.w_code 2) else if o = u then (0, T.w_code 2) else
      if T.up o = true then (if T.up u = true then (if y_und T o 13 (some u) = some true then (0, (T.w_code 0).w_code 3) else
        if T.hg = 60 then (0, (T.w_code 0).w_code 4) else ((y_hang (((T.w_code 0).w_code 0).w_hg (T.hg + 1)) o u).ep o, y_hang (((T.w_code 0).w_code 0).w_hg (T.hg + 1)) o u)) else (0, (T.w_code 0).w_code 3)) else (0, (T.w_code 0).w_code 3)
theorem und_code {T : CT} {top : Nat} {v : Int32} : ∀ (q : Nat) (a : Option Nat), y_und (T.w_code v) top q a = y_und T top q a
  | 0, _ => rfl
  | _ + 1, none => rfl
  | q + 1, some a => by
    show (if a = top then some true else y_und (T.w_code v) top q (T.par a)) = (if a = top then some true else y_und T top q (T.par a))
    rw [und_code q]
theorem hg_J {T : CT} (h : JI T) {o u : Nat} (ho : o < 12) (hu : u < 12) (hP : pot T + 80 ≤ 9000) : JI (y_hg T o u) ∧ pot (y_hg T o u) ≤ pot T + 40 := by
  have h1 := away_J h ho (by omega)
  have h2 := pot_away h ho (by omega)
  exact ⟨⟨(h1.1.w_par (fun j z => by cases z; exact hu)).w_ep, h1.2.1, h1.2.2⟩, h2⟩
theorem JI.w_hg {T : CT} (h : JI T) {v : Nat} (hv : v ≤ 60) : JI (T.w_hg v) := ⟨h.1.w_hg hv, h.2.1, h.2.2⟩
theorem hff : ¬ (some false = some true) := by simp
theorem m_hang {l : Launch} {D : gzD} {K : gzK} {M : gzM} {n nc ns : Nat} {M0 : gzM} {S : gS} {L : gL} {T : CT} (hR : RF M0 S L M) (hT : Rel 12 true S T) {xo xu : Int32} (hI : JI T) (hP : pot T + 80 ≤ 9000) (hQ : ∀ o u, u < 12 → ∃ r, y_und T o 13 (some u) = some r) (k : ∀ S M, RF M0 S L M → Rel 12 true S (z_hang T xo xu).2 → K (.inl (some (.int (z_hang T xo xu).1))) M n nc ns) : GZ l P1 D F_M_hang K 0 [some (.ref 83), some (.int xo), some (.int xu), none] [] M n nc ns := by
  refine gz_aload_n gd_M_hang_0 rfl rfl (gz_isr.r _) ?_
  refine gz_iload_n gd_M_hang_1 rfl rfl ?_
  refine gz_static1 gd_M_hang_2 gs_M_hang_2 (Nat.le_of_ble_eq_true rfl) (Nat.le_of_ble_eq_true rfl) ?_
  refine m_isOffice (fun ha hb => ?_) (fun ha => ?_)
  ·
    obtain ⟨o, ho, rfl⟩ := of_ix ha hb
    have eo := inR_s ho (show 12 < 2 ^ 31 by decide)
    refine gz_if_eq (tgt := 15) gd_M_hang_5 (by decide) (fun h5 => ?_) (fun h5 => ?_)
    ·
      exact absurd h5 (by decide)
    ·
      refine gz_iload_n gd_M_hang_8 rfl rfl ?_
      refine gz_static1 gd_M_hang_9 gs_M_hang_9 (Nat.le_of_ble_eq_true rfl) (Nat.le_of_ble_eq_true rfl) ?_
      refine m_isOffice (fun ha hb => ?_) (fun ha => ?_)
      ·
        obtain ⟨u, hu, rfl⟩ := of_ix ha hb
        have eu := inR_s hu (show 12 < 2 ^ 31 by decide)
        refine gz_if_ne (tgt := 19) gd_M_hang_12 (by decide) (fun h12 => ?_) (fun h12 => ?_)
        ·
          refine gz_iload_n gd_M_hang_19 rfl rfl ?_
          refine gz_if_eq (tgt := 28) gd_M_hang_20 (by decide) (fun h20 => ?_) (fun h20 => ?_)
          ·
            replace h20 := (nI_z (by omega)).1 h20
            refine gz_iconst (v := 2) gd_M_hang_28 (by decide) ?_
            refine gz_goto (tgt := 33) gd_M_hang_29 (by decide) ?_
            refine mt_puti (T := T.w_code 2) gd_M_hang_33 gf_M_100 gr_M_hang_6_0 hR rfl hT.s_code (fun S M hR hT => ?_)
            refine gz_aload_n gd_M_hang_36 rfl rfl (gz_isr.r _) ?_
            refine mt_geti gd_M_hang_37 gf_M_100 hR rfl (show _ = (2 : Int32) from hT.code) ?_
            refine gz_if_ne (tgt := 92) gd_M_hang_40 (by decide) (fun h40 => ?_) (fun h40 => ?_)
            ·
              refine gz_aload_n gd_M_hang_92 rfl rfl (gz_isr.r _) ?_
              refine mt_geti gd_M_hang_93 gf_M_100 hR rfl (show _ = (2 : Int32) from hT.code) ?_
              refine gz_if_le (tgt := 101) gd_M_hang_96 (by decide) (fun h96 => ?_) (fun h96 => ?_)
              ·
                exact absurd h96 (by decide)
              ·
                refine gz_iconst (v := 0) gd_M_hang_99 (by decide) ?_
                refine gz_ireturn gd_M_hang_100 rfl rfl ?_
                simp only [z_hang, eo, eu, if_pos h20] at k
                exact k _ _ hR hT
            ·
              exact absurd h40 (by decide)
          ·
            replace h20 := mt (nI_z (by omega)).2 h20
            refine gz_iload_n gd_M_hang_23 rfl rfl ?_
            refine gz_iload_n gd_M_hang_24 rfl rfl ?_
            refine gz_icmp_ne (tgt := 32) gd_M_hang_25 (by decide) (fun h25 => ?_) (fun h25 => ?_)
            ·
              replace h25 := mt (nI_eq (a := o) (b := u) (by omega) (by omega)).2 h25
              refine gz_iconst (v := 0) gd_M_hang_32 (by decide) ?_
              refine mt_puti (T := T.w_code 0) gd_M_hang_33 gf_M_100 gr_M_hang_6_0 hR rfl hT.s_code (fun S M hR hT => ?_)
              refine gz_aload_n gd_M_hang_36 rfl rfl (gz_isr.r _) ?_
              refine mt_geti gd_M_hang_37 gf_M_100 hR rfl (show _ = (0 : Int32) from hT.code) ?_
              refine gz_if_ne (tgt := 92) gd_M_hang_40 (by decide) (fun h40 => ?_) (fun h40 => ?_)
              ·
                exact absurd h40 (by decide)
              ·
                refine gz_aload_n gd_M_hang_43 rfl rfl (gz_isr.r _) ?_
                refine gz_aload_n gd_M_hang_44 rfl rfl (gz_isr.r _) ?_
                refine md_getf gd_M_hang_45 gf_M_35 hR rfl ?_
                refine gz_iload_n gd_M_hang_48 rfl rfl ?_
                refine mt_zaload (a := 92) (i := o) gd_M_hang_49 hR rfl rfl (show _ < 12 from (by omega)) (show _ = bI (T.up o) from (hT.up o (by omega))) ?_
                refine gz_if_eq (tgt := 71) gd_M_hang_50 (by decide) (fun h50 => ?_) (fun h50 => ?_)
                ·
                  replace h50 := bI_0.1 h50
                  refine gz_iconst (v := 3) gd_M_hang_71 (by decide) ?_
                  refine gz_goto (tgt := 89) gd_M_hang_72 (by decide) ?_
                  refine mt_puti (T := (T.w_code 0).w_code 3) gd_M_hang_89 gf_M_100 gr_M_hang_6_0 hR rfl hT.s_code (fun S M hR hT => ?_)
                  refine gz_aload_n gd_M_hang_92 rfl rfl (gz_isr.r _) ?_
                  refine mt_geti gd_M_hang_93 gf_M_100 hR rfl (show _ = (3 : Int32) from hT.code) ?_
                  refine gz_if_le (tgt := 101) gd_M_hang_96 (by decide) (fun h96 => ?_) (fun h96 => ?_)
                  ·
                    exact absurd h96 (by decide)
                  ·
                    refine gz_iconst (v := 0) gd_M_hang_99 (by decide) ?_
                    refine gz_ireturn gd_M_hang_100 rfl rfl ?_
                    simp only [z_hang, eo, eu, if_neg h20, if_neg h25, if_neg (bf h50)] at k
                    exact k _ _ hR hT
                ·
                  replace h50 := bI_n.1 h50
                  refine gz_aload_n gd_M_hang_53 rfl rfl (gz_isr.r _) ?_
                  refine md_getf gd_M_hang_54 gf_M_35 hR rfl ?_
                  refine gz_iload_n gd_M_hang_57 rfl rfl ?_
                  refine mt_zaload (a := 92) (i := u) gd_M_hang_58 hR rfl rfl (show _ < 12 from (by omega)) (show _ = bI (T.up u) from (hT.up u (by omega))) ?_
                  refine gz_if_eq (tgt := 71) gd_M_hang_59 (by decide) (fun h59 => ?_) (fun h59 => ?_)
                  ·
                    replace h59 := bI_0.1 h59
                    refine gz_iconst (v := 3) gd_M_hang_71 (by decide) ?_
                    refine gz_goto (tgt := 89) gd_M_hang_72 (by decide) ?_
                    refine mt_puti (T := (T.w_code 0).w_code 3) gd_M_hang_89 gf_M_100 gr_M_hang_6_0 hR rfl hT.s_code (fun S M hR hT => ?_)
                    refine gz_aload_n gd_M_hang_92 rfl rfl (gz_isr.r _) ?_
                    refine mt_geti gd_M_hang_93 gf_M_100 hR rfl (show _ = (3 : Int32) from hT.code) ?_
                    refine gz_if_le (tgt := 101) gd_M_hang_96 (by decide) (fun h96 => ?_) (fun h96 => ?_)
                    ·
                      exact absurd h96 (by decide)
                    ·
                      refine gz_iconst (v := 0) gd_M_hang_99 (by decide) ?_
                      refine gz_ireturn gd_M_hang_100 rfl rfl ?_
                      simp only [z_hang, eo, eu, if_neg h20, if_neg h25, if_pos h50, if_neg (bf h59)] at k
                      exact k _ _ hR hT
                  ·
                    replace h59 := bI_n.1 h59
                    refine gz_aload_n gd_M_hang_62 rfl rfl (gz_isr.r _) ?_
                    refine gz_iload_n gd_M_hang_63 rfl rfl ?_
                    refine gz_iload_n gd_M_hang_64 rfl rfl ?_
                    refine gz_virtual2 gd_M_hang_65 hR.1 rfl rfl gs_M_hang_65 (Nat.le_of_ble_eq_true rfl) (Nat.le_of_ble_eq_true rfl) ?_
                    obtain ⟨r, hr⟩ := hQ o u hu
                    refine m_isUnder (T := T.w_code 0) (o := u) (top := o) (q := 13) (r := r) hR hT hu ho hI.1.w_code ((und_code 13 (some u)).trans hr) ?_
                    refine gz_if_eq (tgt := 75) gd_M_hang_68 (by decide) (fun h68 => ?_) (fun h68 => ?_)
                    ·
                      replace h68 := bI_0.1 h68
                      refine gz_aload_n gd_M_hang_75 rfl rfl (gz_isr.r _) ?_
                      refine mt_geti gd_M_hang_76 gf_M_163 hR rfl (show _ = nI T.hg from hT.hg) ?_
                      refine gz_bipush (v := 60) gd_M_hang_79 (by decide) ?_
                      refine gz_icmp_ne (tgt := 88) gd_M_hang_81 (by decide) (fun h81 => ?_) (fun h81 => ?_)
                      ·
                        replace h81 := mt (nI_eq (a := T.hg) (b := 60) (by have := hI.1.hg; omega) (by have := hI.1.hg; omega)).2 h81
                        refine gz_iconst (v := 0) gd_M_hang_88 (by decide) ?_
                        refine mt_puti (T := (T.w_code 0).w_code 0) gd_M_hang_89 gf_M_100 gr_M_hang_6_0 hR rfl hT.s_code (fun S M hR hT => ?_)
                        refine gz_aload_n gd_M_hang_92 rfl rfl (gz_isr.r _) ?_
                        refine mt_geti gd_M_hang_93 gf_M_100 hR rfl (show _ = (0 : Int32) from hT.code) ?_
                        refine gz_if_le (tgt := 101) gd_M_hang_96 (by decide) (fun h96 => ?_) (fun h96 => ?_)
                        ·
                          refine gz_aload_n gd_M_hang_101 rfl rfl (gz_isr.r _) ?_
                          refine gz_dup gd_M_hang_102 rfl ?_
                          refine mt_geti gd_M_hang_103 gf_M_163 hR rfl (show _ = nI T.hg from hT.hg) ?_
                          refine gz_iconst (v := 1) gd_M_hang_106 (by decide) ?_
                          refine gq_iadd (z := nI (T.hg + 1)) gd_M_hang_107 (nI_add T.hg 1) ?_
                          refine mt_puti (T := (((T.w_code 0).w_code 0).w_hg (T.hg + 1))) gd_M_hang_108 gf_M_163 gr_M_hang_6_29 hR rfl (hT.s_hg rfl) (fun S M hR hT => ?_)
                          refine gz_aload_n gd_M_hang_111 rfl rfl (gz_isr.r _) ?_
                          refine gz_iload_n gd_M_hang_112 rfl rfl ?_
                          refine gz_virtual1 gd_M_hang_113 hR.1 rfl rfl gs_M_hang_113 (Nat.le_of_ble_eq_true rfl) (Nat.le_of_ble_eq_true rfl) ?_
                          have hJH := JI.w_hg (v := T.hg + 1) (JI.code (v := 0) (JI.code (v := 0) hI)) (by have := hI.1.hg; omega)
                          refine m_takeAway (T := (((T.w_code 0).w_code 0).w_hg (T.hg + 1))) (o := o) hR hT ho hJH (show pot T + 40 ≤ 9000 by omega) (fun S M hR hT => ?_)
                          refine gz_aload_n gd_M_hang_116 rfl rfl (gz_isr.r _) ?_
                          refine md_getf gd_M_hang_117 gf_M_38 hR rfl ?_
                          refine gz_iload_n gd_M_hang_120 rfl rfl ?_
                          refine gz_iload_n gd_M_hang_121 rfl rfl ?_
                          refine mt_iastore (T := (y_away (((T.w_code 0).w_code 0).w_hg (T.hg + 1)) o).p_par o (some u)) (a := 93) (i := o) gd_M_hang_122 hR rfl rfl (show _ < 12 from (by omega)) (hT.s_par ho rfl) (fun S M hR hT => ?_)
                          refine gz_aload_n gd_M_hang_123 rfl rfl (gz_isr.r _) ?_
                          refine md_getf gd_M_hang_124 gf_M_41 hR rfl ?_
                          refine gz_iload_n gd_M_hang_127 rfl rfl ?_
                          refine gz_dup2 gd_M_hang_128 rfl rfl ?_
                          refine mt_iaload (a := 94) (i := o) gd_M_hang_129 hR rfl rfl (show _ < 12 from (by omega)) (show _ = (y_away (((T.w_code 0).w_code 0).w_hg (T.hg + 1)) o).ep o from hT.ep o ho) ?_
                          refine gz_iconst (v := 1) gd_M_hang_130 (by decide) ?_
                          refine gq_iadd (z := ((y_away (((T.w_code 0).w_code 0).w_hg (T.hg + 1)) o).ep o + 1)) gd_M_hang_131 rfl ?_
                          refine mt_iastore (T := y_hg (((T.w_code 0).w_code 0).w_hg (T.hg + 1)) o u) (a := 94) (i := o) gd_M_hang_132 hR rfl rfl (show _ < 12 from (by omega)) (hT.s_ep ho rfl) (fun S M hR hT => ?_)
                          refine gz_iconst (v := 0) gd_M_hang_133 (by decide) ?_
                          refine gz_istore_n gd_M_hang_134 rfl (Nat.le_of_ble_eq_true rfl) rfl ?_
                          obtain ⟨hJ0, hJ00⟩ := hg_J (u := u) hJH ho hu hP
                          have loop : ∀ (j i : Nat), i + j = 40 → ∀ S M, RF M0 S L M → Rel 12 true S (y_tl (y_hg (((T.w_code 0).w_code 0).w_hg (T.hg + 1)) o u) o i) → GZ l P1 D F_M_hang K 135 [some (.ref 83), some (.int (nI o)), some (.int (nI u)), some (.int (nI i))] [] M n nc ns := by
                            intro j
                            induction j with
                            | zero =>
                              intro i hi S M hR hT
                              have hJ := tl_J (o := o) hJ0 ho (by have e : pot (((T.w_code 0).w_code 0).w_hg (T.hg + 1)) = pot T := rfl; omega) i (by omega)
                              have hB := hJ.1.1
                              refine gz_iload_n gd_M_hang_135 rfl rfl ?_
                              refine gz_bipush (v := 40) gd_M_hang_136 (by decide) ?_
                              refine gz_icmp_ge (tgt := 178) gd_M_hang_138 (by decide) (fun h138 => ?_) (fun h138 => ?_)
                              ·
                                replace h138 := (nI_leI (a := 40) (b := i) (by omega) (by omega)).1 h138
                                refine gz_aload_n gd_M_hang_178 rfl rfl (gz_isr.r _) ?_
                                refine md_getf gd_M_hang_179 gf_M_41 hR rfl ?_
                                refine gz_iload_n gd_M_hang_182 rfl rfl ?_
                                refine mt_iaload (a := 94) (i := o) gd_M_hang_183 hR rfl rfl (show _ < 12 from (by omega)) (hT.ep o (by omega)) ?_
                                refine gz_ireturn gd_M_hang_184 rfl rfl ?_
                                have e40 : i = 40 := by omega
                                rw [e40] at hT
                                simp only [z_hang, eo, eu, if_neg h20, if_neg h25, if_pos h50, if_pos h59, hr, h68, if_neg hff, if_neg h81] at k
                                rw [e40]
                                exact k _ _ hR hT
                              ·
                                replace h138 := mt (nI_leI (a := 40) (b := i) (by omega) (by omega)).2 h138
                                omega
                            | succ j ih =>
                              intro i hi S M hR hT
                              have hJ := tl_J (o := o) hJ0 ho (by have e : pot (((T.w_code 0).w_code 0).w_hg (T.hg + 1)) = pot T := rfl; omega) i (by omega)
                              have hB := hJ.1.1
                              refine gz_iload_n gd_M_hang_135 rfl rfl ?_
                              refine gz_bipush (v := 40) gd_M_hang_136 (by decide) ?_
                              refine gz_icmp_ge (tgt := 178) gd_M_hang_138 (by decide) (fun h138 => ?_) (fun h138 => ?_)
                              ·
                                replace h138 := (nI_leI (a := 40) (b := i) (by omega) (by omega)).1 h138
                                omega
                              ·
                                replace h138 := mt (nI_leI (a := 40) (b := i) (by omega) (by omega)).2 h138
                                refine gz_aload_n gd_M_hang_141 rfl rfl (gz_isr.r _) ?_
                                refine md_getf gd_M_hang_142 gf_M_44 hR rfl ?_
                                refine gz_bipush (v := 40) gd_M_hang_145 (by decide) ?_
                                refine gz_iload_n gd_M_hang_147 rfl rfl ?_
                                refine gq_imul (z := nI (40 * o)) gd_M_hang_148 (pk_mul 40 o) ?_
                                refine gz_iload_n gd_M_hang_149 rfl rfl ?_
                                refine gq_iadd (z := nI (40 * o + i)) gd_M_hang_150 (nI_add (40 * o) i) ?_
                                refine mt_iaload (a := 95) (i := 40 * o + i) gd_M_hang_151 hR rfl rfl (show _ < 480 from (by omega)) (hT.shown o i (by omega) (by omega)) ?_
                                refine gz_if_le (tgt := 172) gd_M_hang_152 (by decide) (fun h152 => ?_) (fun h152 => ?_)
                                ·
                                  replace h152 := (nI_le0 (by have := hB.shown o i ho (by omega); have := hB.vs; omega)).1 h152
                                  refine gz_iinc (v := nI (i + 1)) gd_M_hang_172 rfl (nI_1 i) (Nat.le_of_ble_eq_true rfl) rfl ?_
                                  refine gz_goto (tgt := 135) gd_M_hang_175 (by decide) ?_
                                  have e : y_tl (y_hg (((T.w_code 0).w_code 0).w_hg (T.hg + 1)) o u) o (i + 1) = (y_tl (y_hg (((T.w_code 0).w_code 0).w_hg (T.hg + 1)) o u) o i) := if_pos h152
                                  exact ih (i + 1) (by omega) _ _ hR (by rw [e]; exact hT)
                                ·
                                  replace h152 := mt (nI_le0 (by have := hB.shown o i ho (by omega); have := hB.vs; omega)).2 h152
                                  refine gz_aload_n gd_M_hang_155 rfl rfl (gz_isr.r _) ?_
                                  refine gz_iload_n gd_M_hang_156 rfl rfl ?_
                                  refine gz_iload_n gd_M_hang_157 rfl rfl ?_
                                  refine gz_aload_n gd_M_hang_158 rfl rfl (gz_isr.r _) ?_
                                  refine md_getf gd_M_hang_159 gf_M_44 hR rfl ?_
                                  refine gz_bipush (v := 40) gd_M_hang_162 (by decide) ?_
                                  refine gz_iload_n gd_M_hang_164 rfl rfl ?_
                                  refine gq_imul (z := nI (40 * o)) gd_M_hang_165 (pk_mul 40 o) ?_
                                  refine gz_iload_n gd_M_hang_166 rfl rfl ?_
                                  refine gq_iadd (z := nI (40 * o + i)) gd_M_hang_167 (nI_add (40 * o) i) ?_
                                  refine mt_iaload (a := 95) (i := 40 * o + i) gd_M_hang_168 hR rfl rfl (show _ < 480 from (by omega)) (hT.shown o i (by omega) (by omega)) ?_
                                  refine gz_virtual3 gd_M_hang_169 hR.1 rfl rfl gs_M_hang_169 (Nat.le_of_ble_eq_true rfl) (Nat.le_of_ble_eq_true rfl) ?_
                                  refine m_tell (T := (y_tl (y_hg (((T.w_code 0).w_code 0).w_hg (T.hg + 1)) o u) o i)) (o := o) (p := i) (v := (y_tl (y_hg (((T.w_code 0).w_code 0).w_hg (T.hg + 1)) o u) o i).shown o i) hR hT ho (lineL ho (by have := hJ.2; have e : pot (((T.w_code 0).w_code 0).w_hg (T.hg + 1)) = pot T := rfl; omega)) hB.postN (fun S M hR hT => ?_)
                                  refine gz_iinc (v := nI (i + 1)) gd_M_hang_172 rfl (nI_1 i) (Nat.le_of_ble_eq_true rfl) rfl ?_
                                  refine gz_goto (tgt := 135) gd_M_hang_175 (by decide) ?_
                                  have e : y_tl (y_hg (((T.w_code 0).w_code 0).w_hg (T.hg + 1)) o u) o (i + 1) = y_tell (y_tl (y_hg (((T.w_code 0).w_code 0).w_hg (T.hg + 1)) o u) o i) o i ((y_tl (y_hg (((T.w_code 0).w_code 0).w_hg (T.hg + 1)) o u) o i).shown o i) := if_neg h152
                                  exact ih (i + 1) (by omega) _ _ hR (by rw [e]; exact hT)
                          exact loop 40 0 (by omega) _ _ hR hT
                        ·
                          exact absurd h96 (by decide)
                      ·
                        replace h81 := (nI_eq (a := T.hg) (b := 60) (by have := hI.1.hg; omega) (by have := hI.1.hg; omega)).1 h81
                        refine gz_iconst (v := 4) gd_M_hang_84 (by decide) ?_
                        refine gz_goto (tgt := 89) gd_M_hang_85 (by decide) ?_
                        refine mt_puti (T := (T.w_code 0).w_code 4) gd_M_hang_89 gf_M_100 gr_M_hang_6_0 hR rfl hT.s_code (fun S M hR hT => ?_)
                        refine gz_aload_n gd_M_hang_92 rfl rfl (gz_isr.r _) ?_
                        refine mt_geti gd_M_hang_93 gf_M_100 hR rfl (show _ = (4 : Int32) from hT.code) ?_
                        refine gz_if_le (tgt := 101) gd_M_hang_96 (by decide) (fun h96 => ?_) (fun h96 => ?_)
                        ·
                          exact absurd h96 (by decide)
                        ·
                          refine gz_iconst (v := 0) gd_M_hang_99 (by decide) ?_
                          refine gz_ireturn gd_M_hang_100 rfl rfl ?_
                          simp only [z_hang, eo, eu, if_neg h20, if_neg h25, if_pos h50, if_pos h59, if_pos h81, hr, h68, if_neg hff] at k
                          exact k _ _ hR hT
                    ·
                      replace h68 := bI_n.1 h68
                      refine gz_iconst (v := 3) gd_M_hang_71 (by decide) ?_
                      refine gz_goto (tgt := 89) gd_M_hang_72 (by decide) ?_
                      refine mt_puti (T := (T.w_code 0).w_code 3) gd_M_hang_89 gf_M_100 gr_M_hang_6_0 hR rfl hT.s_code (fun S M hR hT => ?_)
                      refine gz_aload_n gd_M_hang_92 rfl rfl (gz_isr.r _) ?_
                      refine mt_geti gd_M_hang_93 gf_M_100 hR rfl (show _ = (3 : Int32) from hT.code) ?_
                      refine gz_if_le (tgt := 101) gd_M_hang_96 (by decide) (fun h96 => ?_) (fun h96 => ?_)
                      ·
                        exact absurd h96 (by decide)
                      ·
                        refine gz_iconst (v := 0) gd_M_hang_99 (by decide) ?_
                        refine gz_ireturn gd_M_hang_100 rfl rfl ?_
                        simp only [z_hang, eo, eu, if_neg h20, if_neg h25, if_pos h50, if_pos h59, hr, h68, reduceIte] at k
                        exact k _ _ hR hT
            ·
              replace h25 := (nI_eq (a := o) (b := u) (by omega) (by omega)).1 h25
              refine gz_iconst (v := 2) gd_M_hang_28 (by decide) ?_
              refine gz_goto (tgt := 33) gd_M_hang_29 (by decide) ?_
              refine mt_puti (T := T.w_code 2) gd_M_hang_33 gf_M_100 gr_M_hang_6_0 hR rfl hT.s_code (fun S M hR hT => ?_)
              refine gz_aload_n gd_M_hang_36 rfl rfl (gz_isr.r _) ?_
              refine mt_geti gd_M_hang_37 gf_M_100 hR rfl (show _ = (2 : Int32) from hT.code) ?_
              refine gz_if_ne (tgt := 92) gd_M_hang_40 (by decide) (fun h40 => ?_) (fun h40 => ?_)
              ·
                refine gz_aload_n gd_M_hang_92 rfl rfl (gz_isr.r _) ?_
                refine mt_geti gd_M_hang_93 gf_M_100 hR rfl (show _ = (2 : Int32) from hT.code) ?_
                refine gz_if_le (tgt := 101) gd_M_hang_96 (by decide) (fun h96 => ?_) (fun h96 => ?_)
                ·
                  exact absurd h96 (by decide)
                ·
                  refine gz_iconst (v := 0) gd_M_hang_99 (by decide) ?_
                  refine gz_ireturn gd_M_hang_100 rfl rfl ?_
                  simp only [z_hang, eo, eu, if_neg h20, if_pos h25] at k
                  exact k _ _ hR hT
              ·
                exact absurd h40 (by decide)
        ·
          exact absurd h12 (by decide)
      ·
        have eu := inR_n (n := 11) (by decide) rfl ha
        refine gz_if_ne (tgt := 19) gd_M_hang_12 (by decide) (fun h12 => ?_) (fun h12 => ?_)
        ·
          exact absurd h12 (by decide)
        ·
          refine gz_iconst (v := 1) gd_M_hang_15 (by decide) ?_
          refine gz_goto (tgt := 33) gd_M_hang_16 (by decide) ?_
          refine mt_puti (T := T.w_code 1) gd_M_hang_33 gf_M_100 gr_M_hang_6_0 hR rfl hT.s_code (fun S M hR hT => ?_)
          refine gz_aload_n gd_M_hang_36 rfl rfl (gz_isr.r _) ?_
          refine mt_geti gd_M_hang_37 gf_M_100 hR rfl (show _ = (1 : Int32) from hT.code) ?_
          refine gz_if_ne (tgt := 92) gd_M_hang_40 (by decide) (fun h40 => ?_) (fun h40 => ?_)
          ·
            refine gz_aload_n gd_M_hang_92 rfl rfl (gz_isr.r _) ?_
            refine mt_geti gd_M_hang_93 gf_M_100 hR rfl (show _ = (1 : Int32) from hT.code) ?_
            refine gz_if_le (tgt := 101) gd_M_hang_96 (by decide) (fun h96 => ?_) (fun h96 => ?_)
            ·
              exact absurd h96 (by decide)
            ·
              refine gz_iconst (v := 0) gd_M_hang_99 (by decide) ?_
              refine gz_ireturn gd_M_hang_100 rfl rfl ?_
              simp only [z_hang, eo, eu] at k
              exact k _ _ hR hT
          ·
            exact absurd h40 (by decide)
  ·
    have eo := inR_n (n := 11) (by decide) rfl ha
    refine gz_if_eq (tgt := 15) gd_M_hang_5 (by decide) (fun h5 => ?_) (fun h5 => ?_)
    ·
      refine gz_iconst (v := 1) gd_M_hang_15 (by decide) ?_
      refine gz_goto (tgt := 33) gd_M_hang_16 (by decide) ?_
      refine mt_puti (T := T.w_code 1) gd_M_hang_33 gf_M_100 gr_M_hang_6_0 hR rfl hT.s_code (fun S M hR hT => ?_)
      refine gz_aload_n gd_M_hang_36 rfl rfl (gz_isr.r _) ?_
      refine mt_geti gd_M_hang_37 gf_M_100 hR rfl (show _ = (1 : Int32) from hT.code) ?_
      refine gz_if_ne (tgt := 92) gd_M_hang_40 (by decide) (fun h40 => ?_) (fun h40 => ?_)
      ·
        refine gz_aload_n gd_M_hang_92 rfl rfl (gz_isr.r _) ?_
        refine mt_geti gd_M_hang_93 gf_M_100 hR rfl (show _ = (1 : Int32) from hT.code) ?_
        refine gz_if_le (tgt := 101) gd_M_hang_96 (by decide) (fun h96 => ?_) (fun h96 => ?_)
        ·
          exact absurd h96 (by decide)
        ·
          refine gz_iconst (v := 0) gd_M_hang_99 (by decide) ?_
          refine gz_ireturn gd_M_hang_100 rfl rfl ?_
          simp only [z_hang, eo] at k
          exact k _ _ hR hT
      ·
        exact absurd h40 (by decide)
    ·
      exact absurd h5 (by decide)
