/-! The reference: seats. Printed by wip/whole/m22.py -/
theorem bs_c {ru : Int32} {S S' : gS} {L L' : gL} (h1 : ∀ i, i < 6 → S 112 i = S' 112 i) (h2 : ∀ i, i < 6 → L 110 i = L' 110 i) (h3 : ru = 2 → ∀ i, i < 6 → L 111 i = L' 111 i) : ∀ i, i < 6 → y_bs ru S L i = y_bs ru S' L' i
  | 0, _ => rfl
  | i + 1, hi => by
    have ih := bs_c h1 h2 h3 i (by omega)
    have hb := bs_le (ru := ru) (S := S') (L := L') i
    have m1 : ∀ a b, a < 6 → b < 6 → y_mine ru S L a b = y_mine ru S' L' a b := by
      intro a b ha hb
      unfold y_mine
      by_cases e : ru = 2
      · rw [if_pos e, if_pos e, h3 e a ha]
      · rw [if_neg e, if_neg e, h2 a ha, h1 b hb]
    simp only [y_bs]
    rw [ih, m1 _ _ (by omega) (by omega), m1 _ _ (by omega) (by omega)]
theorem sC_c {ru : Int32} : ∀ (q : Nat) {S S' : gS} {L L' : gL}, (∀ i, i < 6 → S 112 i = S' 112 i) → (∀ i, i < 6 → L 110 i = L' 110 i) → (ru = 2 → ∀ i, i < 6 → L 111 i = L' 111 i) → ∀ i, i < 6 → (y_sC ru q S L).1 112 i = (y_sC ru q S' L').1 112 i
  | 0, _, _, _, _, h1, _, _ => h1
  | q + 1, S, S', L, L', h1, h2, h3 => by
    intro i hi
    have e := bs_c h1 h2 h3 5 (by omega)
    have hb := bs_le (ru := ru) (S := S') (L := L') 5
    simp only [y_sC]
    rw [e]
    generalize y_bs ru S' L' 5 = b at hb
    rw [h1 b (by omega)]
    refine sC_c q (fun j hj => ?_) (fun j hj => ?_) (fun h j hj => ?_) i hi
    · by_cases c : j = b
      · rw [c, gs_same, gs_same]
      · rw [gs_ne (fun y => c y.2), gs_ne (fun y => c y.2)]
        exact h1 j hj
    · unfold gl_set
      rw [if_neg (by omega), if_neg (by omega)]
      exact h2 j hj
    · by_cases c : j = b
      · rw [c, gl_same, gl_same]
      · rw [gl_ne c, gl_ne c]
        exact h3 h j hj
theorem sB_c {xn : Int32} {al : Int64} {S S' : gS} {L L' : gL} (h1 : ∀ i, i < 6 → S 112 i = S' 112 i) (h2 : ∀ i, i < 6 → L 110 i = L' 110 i) : ∀ i, i ≤ 6 → (∀ j, j < 6 → (y_sB xn al S L i).1 112 j = (y_sB xn al S' L' i).1 112 j) ∧ (∀ j, j < 6 → (y_sB xn al S L i).2.1 110 j = (y_sB xn al S' L' i).2.1 110 j) ∧ (∀ j, j < i → (y_sB xn al S L i).2.1 111 j = (y_sB xn al S' L' i).2.1 111 j) ∧ (y_sB xn al S L i).2.2 = (y_sB xn al S' L' i).2.2
  | 0, _ => ⟨h1, h2, fun j hj => absurd hj (Nat.not_lt_zero _), rfl⟩
  | i + 1, hi => by
    obtain ⟨a1, a2, a3, a4⟩ := sB_c (xn := xn) (al := al) h1 h2 i (by omega)
    have e := a2 i (by omega)
    simp only [y_sB]
    refine ⟨fun j hj => ?_, fun j hj => ?_, fun j hj => ?_, ?_⟩
    · rw [e]
      by_cases c : j = i
      · rw [c, gs_same, gs_same]
      · rw [gs_ne (fun y => c y.2), gs_ne (fun y => c y.2)]
        exact a1 j hj
    · unfold gl_set
      rw [if_neg (by omega), if_neg (by omega)]
      exact a2 j hj
    · rw [e]
      by_cases c : j = i
      · rw [c, gl_same, gl_same]
      · rw [gl_ne c, gl_ne c]
        exact a3 j (by omega)
    · rw [a4, e]
theorem sA_c {L L' : gL} (h2 : ∀ i, i < 6 → L 110 i = L' 110 i) : ∀ i, i ≤ 6 → y_sA L i = y_sA L' i
  | 0, _ => rfl
  | i + 1, hi => by
    simp only [y_sA]
    rw [sA_c h2 i (by omega), h2 i (by omega)]
def sm0 (T : CT) (o : Nat) : gL := fun k i => if k = 110 then y_sum T o none i 40 else 0
def y_seat (T : CT) (o : Nat) (xn ru : Int32) (g : Nat) : Int32 :=
  if y_sA (sm0 T o) 6 = 0 then 0 else if ru = 2 then (y_sC 2 (y_left (y_sB xn (y_sA (sm0 T o) 6) (fun _ _ => 0) (sm0 T o) 6).2.2) (y_sB xn (y_sA (sm0 T o) 6) (fun _ _ => 0) (sm0 T o) 6).1 (y_sB xn (y_sA (sm0 T o) 6) (fun _ _ => 0) (sm0 T o) 6).2.1).1 112 g else (y_sC ru (y_left xn) (fun _ _ => 0) (sm0 T o)).1 112 g
theorem sm0_L {T : CT} {o : Nat} {L : gL} (hL : ∀ g, g < 6 → L 110 g = y_sum T o none g 40) : ∀ g, g < 6 → L 110 g = sm0 T o 110 g := fun g hg => (hL g hg).trans (by simp [sm0])
theorem seat_0 {T : CT} {o g : Nat} {xn ru : Int32} {L : gL} (hL : ∀ g, g < 6 → L 110 g = y_sum T o none g 40) (hal : y_sA L 6 = 0) : y_seat T o xn ru g = 0 := by
  unfold y_seat
  rw [← sA_c (sm0_L hL) 6 (by omega), if_pos hal]
theorem seat_r {T : CT} {o g : Nat} {xn ru : Int32} {S : gS} {L : gL} (h0 : ∀ i, i < 6 → S 112 i = 0) (hL : ∀ g, g < 6 → L 110 g = y_sum T o none g 40) (hal : ¬ y_sA L 6 = 0) (hr : ¬ ru = 2) (hg : g < 6) : y_seat T o xn ru g = (y_sC ru (y_left xn) S L).1 112 g := by
  unfold y_seat
  rw [← sA_c (sm0_L hL) 6 (by omega), if_neg hal, if_neg hr]
  exact (sC_c _ h0 (sm0_L hL) (fun e => absurd e hr) g hg).symm
theorem seat_2 {T : CT} {o g : Nat} {xn : Int32} {al : Int64} {S : gS} {L : gL} (h0 : ∀ i, i < 6 → S 112 i = 0) (hL : ∀ g, g < 6 → L 110 g = y_sum T o none g 40) (ha : y_sA L 6 = al) (hal : ¬ al = 0) (hg : g < 6) : y_seat T o xn 2 g = (y_sC 2 (y_left (y_sB xn al S L 6).2.2) (y_sB xn al S L 6).1 (y_sB xn al S L 6).2.1).1 112 g := by
  unfold y_seat
  rw [← sA_c (sm0_L hL) 6 (by omega), ha, if_neg hal, if_pos rfl]
  obtain ⟨a1, a2, a3, a4⟩ := sB_c (xn := xn) (al := al) (S := S) (S' := fun _ _ => 0) (L := L) (L' := sm0 T o) h0 (sm0_L hL) 6 (Nat.le_refl _)
  rw [← a4]
  exact (sC_c _ a1 a2 (fun _ => a3) g hg).symm
def z_seats (T : CT) (a b r d : Int32) : Int32 × CT := match inR a 12 with
  | none => (0, T.w_code 1)
  | some o => match inR d 6 with
    | none => (0, T.w_code 1)
    | some g => if b < 1 ∨ 1000 < b then (0, T.w_code 2) else if r < 0 ∨ 2 < r then (0, T.w_code 2) else (y_seat (T.w_code 0) o b r g, T.w_code 0)
theorem m_seats104 {l : Launch} {D : gzD} {K : gzK} {M : gzM} {n nc ns : Nat} {M0 : gzM} {S : gS} {L : gL} {T : CT} (hR : RF M0 S L M) (hT : Rel 12 true S T) {xo xn ru : Int32} {g o : Nat} {al : Int64} (hg : g < 6) (ha : y_sA L 6 = al) (h0 : ∀ z, z < 6 → S 112 z = 0) (hL : ∀ g, g < 6 → L 110 g = y_sum T o none g 40) (k : ∀ S L M, RF M0 S L M → Rel 12 true S T → K (.inl (some (.int (y_seat T o xn ru g)))) M n nc ns) : GZ l P1 D F_M_seats K 104 [some (.ref 83), some (.int xo), some (.int xn), some (.int ru), some (.int (nI g)), some (.long al), none, some (.int (nI 6)), none] [] M n nc ns := by
  refine gz_lload gd_M_seats_104 rfl ?_
  refine gz_lconst (v := 0) gd_M_seats_106 (by decide) ?_
  refine gz_lcmp gd_M_seats_107 ?_
  refine gz_if_ne (tgt := 113) gd_M_seats_108 (by decide) (fun h108 => ?_) (fun h108 => ?_)
  ·
    refine gz_iload_n gd_M_seats_113 rfl rfl ?_
    refine gz_istore gd_M_seats_114 (Nat.le_of_ble_eq_true rfl) trivial ?_
    refine gz_iconst (v := 0) gd_M_seats_116 (by decide) ?_
    refine gz_istore gd_M_seats_117 (Nat.le_of_ble_eq_true rfl) rfl ?_
    replace h108 : ¬ al = 0 := fun e => h108 ((lg_cmp_eq al 0).2 e)
    by_cases e2 : ru = 2
    · subst e2
      rw [seat_2 h0 hL ha h108 hg] at k
      exact m_seats119 hR hT hg rfl h108 (fun S L M hR hT e => by
        rw [e]
        exact k _ _ _ hR hT)
    · rw [seat_r h0 hL (by rw [ha]; exact h108) e2 hg] at k
      refine gz_iload gd_M_seats_119 rfl ?_
      refine gz_bipush (v := 6) gd_M_seats_121 (by decide) ?_
      refine gz_icmp_ge (tgt := 190) gd_M_seats_123 (by decide) (fun h123 => ?_) (fun h123 => ?_)
      ·
        exact absurd h123 (by decide)
      ·
        refine gz_iload_n gd_M_seats_126 rfl rfl ?_
        refine gz_iconst (v := 2) gd_M_seats_127 (by decide) ?_
        refine gz_icmp_ne (tgt := 190) gd_M_seats_128 (by decide) (fun h128 => ?_) (fun h128 => ?_)
        ·
          exact m_seatsX hg hR hT (fun S L M hR hT e => by
            rw [e]
            exact k _ _ _ hR hT)
        ·
          exact absurd h128 e2
  ·
    refine gz_iconst (v := 0) gd_M_seats_111 (by decide) ?_
    refine gz_ireturn gd_M_seats_112 rfl rfl ?_
    rw [seat_0 hL (ha.trans ((lg_cmp_eq al 0).1 h108))] at k
    exact k _ _ _ hR hT

theorem m_seats {l : Launch} {D : gzD} {K : gzK} {M : gzM} {n nc ns : Nat} {M0 : gzM} {S : gS} {L : gL} {T : CT} (hR : RF M0 S L M) (hT : Rel 12 true S T) {xo xn ru xg : Int32} (hB : Bd T) (k : ∀ S L M, RF M0 S L M → Rel 12 true S (z_seats T xo xn ru xg).2 → K (.inl (some (.int (z_seats T xo xn ru xg).1))) M n nc ns) : GZ l P1 D F_M_seats K 0 [some (.ref 83), some (.int xo), some (.int xn), some (.int ru), some (.int xg), none, none, none, none] [] M n nc ns := by
  refine gz_aload_n gd_M_seats_0 rfl rfl (gz_isr.r _) ?_
  refine gz_iload_n gd_M_seats_1 rfl rfl ?_
  refine gz_static1 gd_M_seats_2 gs_M_seats_2 (Nat.le_of_ble_eq_true rfl) (Nat.le_of_ble_eq_true rfl) ?_
  refine m_isOffice (fun ha hb => ?_) (fun ha => ?_)
  ·
    obtain ⟨o, ho, rfl⟩ := of_ix ha hb
    have eo := inR_s ho (show 12 < 2 ^ 31 by decide)
    refine gz_if_eq (tgt := 18) gd_M_seats_5 (by decide) (fun h5 => ?_) (fun h5 => ?_)
    ·
      exact absurd h5 (by decide)
    ·
      refine gz_iload gd_M_seats_8 rfl ?_
      refine gz_iconst (v := 0) gd_M_seats_10 (by decide) ?_
      refine gz_iconst (v := 5) gd_M_seats_11 (by decide) ?_
      refine gz_static3 gd_M_seats_12 gs_M_seats_12 (Nat.le_of_ble_eq_true rfl) (Nat.le_of_ble_eq_true rfl) ?_
      refine m_in (fun ha hb => ?_) (fun ha => ?_)
      ·
        obtain ⟨g, hg, rfl⟩ := op_ix ha hb
        have eg := inR_s hg (show 6 < 2 ^ 31 by decide)
        refine gz_if_ne (tgt := 22) gd_M_seats_15 (by decide) (fun h15 => ?_) (fun h15 => ?_)
        ·
          refine gz_iload_n gd_M_seats_22 rfl rfl ?_
          refine gz_iconst (v := 1) gd_M_seats_23 (by decide) ?_
          refine gz_sipush (v := 1000) gd_M_seats_24 (by decide) ?_
          refine gz_static3 gd_M_seats_27 gs_M_seats_27 (Nat.le_of_ble_eq_true rfl) (Nat.le_of_ble_eq_true rfl) ?_
          refine m_in (fun ha hb => ?_) (fun ha => ?_)
          ·
            have v1 := not_or.2 ⟨ha, hb⟩
            refine gz_if_eq (tgt := 42) gd_M_seats_30 (by decide) (fun h30 => ?_) (fun h30 => ?_)
            ·
              exact absurd h30 (by decide)
            ·
              refine gz_iload_n gd_M_seats_33 rfl rfl ?_
              refine gz_iconst (v := 0) gd_M_seats_34 (by decide) ?_
              refine gz_iconst (v := 2) gd_M_seats_35 (by decide) ?_
              refine gz_static3 gd_M_seats_36 gs_M_seats_36 (Nat.le_of_ble_eq_true rfl) (Nat.le_of_ble_eq_true rfl) ?_
              refine m_in (fun ha hb => ?_) (fun ha => ?_)
              ·
                have v2 := not_or.2 ⟨ha, hb⟩
                refine gz_if_ne (tgt := 46) gd_M_seats_39 (by decide) (fun h39 => ?_) (fun h39 => ?_)
                ·
                  refine gz_iconst (v := 0) gd_M_seats_46 (by decide) ?_
                  refine mt_puti (T := T.w_code 0) gd_M_seats_47 gf_M_100 gr_M_seats_6_0 hR rfl hT.s_code (fun S M hR hT => ?_)
                  refine gz_aload_n gd_M_seats_50 rfl rfl (gz_isr.r _) ?_
                  refine mt_geti gd_M_seats_51 gf_M_100 hR rfl (show _ = (0 : Int32) from hT.code) ?_
                  refine gz_if_le (tgt := 59) gd_M_seats_54 (by decide) (fun h54 => ?_) (fun h54 => ?_)
                  ·
                    refine gz_aload_n gd_M_seats_59 rfl rfl (gz_isr.r _) ?_
                    refine gz_iload_n gd_M_seats_60 rfl rfl ?_
                    refine gz_iconst (v := -1) gd_M_seats_61 (by decide) ?_
                    refine gz_virtual2 gd_M_seats_62 hR.1 rfl rfl gs_M_seats_62 (Nat.le_of_ble_eq_true rfl) (Nat.le_of_ble_eq_true rfl) ?_
                    refine m_sumUp (T := T.w_code 0) (o := o) (th := none) hR hT ho (fun j hj => by cases hj) hB.w_code (fun L M hR hL => ?_)
                    refine gz_lconst (v := 0) gd_M_seats_65 (by decide) ?_
                    refine gz_lstore gd_M_seats_66 (Nat.le_of_ble_eq_true rfl) rfl ?_
                    refine gz_iconst (v := 0) gd_M_seats_68 (by decide) ?_
                    refine gz_istore gd_M_seats_69 (Nat.le_of_ble_eq_true rfl) trivial ?_
                    simp only [z_seats, eo, eg, if_neg v1, if_neg v2] at k
                    exact m_seats71 hR hT rfl (fun S M hR hT h0 => m_seats104 hR hT hg rfl h0 hL k)
                  ·
                    exact absurd h54 (by decide)
                ·
                  exact absurd h39 (by decide)
              ·
                have v2 := ha
                refine gz_if_ne (tgt := 46) gd_M_seats_39 (by decide) (fun h39 => ?_) (fun h39 => ?_)
                ·
                  exact absurd h39 (by decide)
                ·
                  refine gz_iconst (v := 2) gd_M_seats_42 (by decide) ?_
                  refine gz_goto (tgt := 47) gd_M_seats_43 (by decide) ?_
                  refine mt_puti (T := T.w_code 2) gd_M_seats_47 gf_M_100 gr_M_seats_6_0 hR rfl hT.s_code (fun S M hR hT => ?_)
                  refine gz_aload_n gd_M_seats_50 rfl rfl (gz_isr.r _) ?_
                  refine mt_geti gd_M_seats_51 gf_M_100 hR rfl (show _ = (2 : Int32) from hT.code) ?_
                  refine gz_if_le (tgt := 59) gd_M_seats_54 (by decide) (fun h54 => ?_) (fun h54 => ?_)
                  ·
                    exact absurd h54 (by decide)
                  ·
                    refine gz_iconst (v := 0) gd_M_seats_57 (by decide) ?_
                    refine gz_ireturn gd_M_seats_58 rfl rfl ?_
                    simp only [z_seats, eo, eg, if_neg v1, if_pos v2] at k
                    exact k _ _ _ hR hT
          ·
            have v1 := ha
            refine gz_if_eq (tgt := 42) gd_M_seats_30 (by decide) (fun h30 => ?_) (fun h30 => ?_)
            ·
              refine gz_iconst (v := 2) gd_M_seats_42 (by decide) ?_
              refine gz_goto (tgt := 47) gd_M_seats_43 (by decide) ?_
              refine mt_puti (T := T.w_code 2) gd_M_seats_47 gf_M_100 gr_M_seats_6_0 hR rfl hT.s_code (fun S M hR hT => ?_)
              refine gz_aload_n gd_M_seats_50 rfl rfl (gz_isr.r _) ?_
              refine mt_geti gd_M_seats_51 gf_M_100 hR rfl (show _ = (2 : Int32) from hT.code) ?_
              refine gz_if_le (tgt := 59) gd_M_seats_54 (by decide) (fun h54 => ?_) (fun h54 => ?_)
              ·
                exact absurd h54 (by decide)
              ·
                refine gz_iconst (v := 0) gd_M_seats_57 (by decide) ?_
                refine gz_ireturn gd_M_seats_58 rfl rfl ?_
                simp only [z_seats, eo, eg, if_pos v1] at k
                exact k _ _ _ hR hT
            ·
              exact absurd h30 (by decide)
        ·
          exact absurd h15 (by decide)
      ·
        have eg := inR_n (n := 5) (by decide) rfl ha
        refine gz_if_ne (tgt := 22) gd_M_seats_15 (by decide) (fun h15 => ?_) (fun h15 => ?_)
        ·
          exact absurd h15 (by decide)
        ·
          refine gz_iconst (v := 1) gd_M_seats_18 (by decide) ?_
          refine gz_goto (tgt := 47) gd_M_seats_19 (by decide) ?_
          refine mt_puti (T := T.w_code 1) gd_M_seats_47 gf_M_100 gr_M_seats_6_0 hR rfl hT.s_code (fun S M hR hT => ?_)
          refine gz_aload_n gd_M_seats_50 rfl rfl (gz_isr.r _) ?_
          refine mt_geti gd_M_seats_51 gf_M_100 hR rfl (show _ = (1 : Int32) from hT.code) ?_
          refine gz_if_le (tgt := 59) gd_M_seats_54 (by decide) (fun h54 => ?_) (fun h54 => ?_)
          ·
            exact absurd h54 (by decide)
          ·
            refine gz_iconst (v := 0) gd_M_seats_57 (by decide) ?_
            refine gz_ireturn gd_M_seats_58 rfl rfl ?_
            simp only [z_seats, eo, eg] at k
            exact k _ _ _ hR hT
  ·
    have eo := inR_n (n := 11) (by decide) rfl ha
    refine gz_if_eq (tgt := 18) gd_M_seats_5 (by decide) (fun h5 => ?_) (fun h5 => ?_)
    ·
      refine gz_iconst (v := 1) gd_M_seats_18 (by decide) ?_
      refine gz_goto (tgt := 47) gd_M_seats_19 (by decide) ?_
      refine mt_puti (T := T.w_code 1) gd_M_seats_47 gf_M_100 gr_M_seats_6_0 hR rfl hT.s_code (fun S M hR hT => ?_)
      refine gz_aload_n gd_M_seats_50 rfl rfl (gz_isr.r _) ?_
      refine mt_geti gd_M_seats_51 gf_M_100 hR rfl (show _ = (1 : Int32) from hT.code) ?_
      refine gz_if_le (tgt := 59) gd_M_seats_54 (by decide) (fun h54 => ?_) (fun h54 => ?_)
      ·
        exact absurd h54 (by decide)
      ·
        refine gz_iconst (v := 0) gd_M_seats_57 (by decide) ?_
        refine gz_ireturn gd_M_seats_58 rfl rfl ?_
        simp only [z_seats, eo] at k
        exact k _ _ _ hR hT
    ·
      exact absurd h5 (by decide)
