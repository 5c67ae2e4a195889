/-! The reference: its face, first part. Printed by wip/whole/m6.py -/
theorem bf {t : Bool} (h : t = false) : ¬ t = true := by rw [h]; exact Bool.false_ne_true
def inR (x : Int32) (n : Nat) : Option Nat := if 0 ≤ x.toInt ∧ x.toInt < n then some x.toInt.toNat else none
theorem inR_s {p n : Nat} (hp : p < n) (hn : n < 2 ^ 31) : inR (nI p) n = some p := by
  unfold inR
  rw [nI_toInt (by omega), if_pos ⟨by omega, by omega⟩]
  rfl
theorem inR_none {x : Int32} {n : Nat} (hn : n < 2 ^ 31) (h : ∀ p, p < n → x ≠ nI p) : inR x n = none := by
  unfold inR
  refine if_neg (fun z => ?_)
  obtain ⟨j, hj, e⟩ := vp_in_of (vp_in_iff.2 z) hn
  exact h j hj e
theorem inR_n {x hi : Int32} {n : Nat} (hn : n + 1 < 2 ^ 31) (he : hi = nI n) (h : x < 0 ∨ hi < x) : inR x (n + 1) = none := by
  refine inR_none hn (fun p hp e => ?_)
  subst e
  rcases h with h | h
  · exact nI_pos (by omega) h
  · rw [he, nI_ltI (by omega) (by omega)] at h
    omega
def isP (T : CT) (x : Int32) : Option Nat := match inR x 40 with
  | none => none
  | some p => if T.there p = true then some p else none
theorem isP_s {T : CT} {p : Nat} (hp : p < 40) (h : T.there p = true) : isP T (nI p) = some p := by
  simp only [isP, inR_s hp (by decide), if_pos h]
theorem isP_n {T : CT} {x : Int32} (h : (x < 0 ∨ 39 < x) ∨ (∃ p, p < 40 ∧ x = nI p ∧ T.there p = false)) : isP T x = none := by
  rcases h with h | ⟨p, hp, rfl, h⟩
  · simp only [isP, inR_n (n := 39) (by decide) rfl h]
  · simp only [isP, inR_s hp (by decide)]
    exact if_neg (by rw [h]; exact Bool.false_ne_true)
def CT.p_there (T : CT) (o : Nat) (v : Bool) : CT := T.w_there (ct1 T.there o v)
def CT.p_home (T : CT) (o : Nat) (v : Nat) : CT := T.w_home (ct1 T.home o v)
def CT.p_reg (T : CT) (o : Nat) (v : Int32) : CT := T.w_reg (ct1 T.reg o v)
def CT.p_last (T : CT) (o : Nat) (v : Nat) : CT := T.w_last (ct1 T.last o v)
def CT.p_num (T : CT) (o : Nat) (v : Int32) : CT := T.w_num (ct1 T.num o v)
def CT.p_mark (T : CT) (o : Nat) (v : Int32) : CT := T.w_mark (ct1 T.mark o v)
def CT.p_draft (T : CT) (o : Nat) (v : Int32) : CT := T.w_draft (ct1 T.draft o v)
def CT.p_up (T : CT) (o : Nat) (v : Bool) : CT := T.w_up (ct1 T.up o v)
def CT.p_par (T : CT) (o : Nat) (v : Option Nat) : CT := T.w_par (ct1 T.par o v)
def CT.p_ep (T : CT) (o : Nat) (v : Int32) : CT := T.w_ep (ct1 T.ep o v)
def CT.p_tk (T : CT) (o : Nat) (v : Nat) : CT := T.w_tk (ct1 T.tk o v)
def CT.p_vote (T : CT) (o p : Nat) (v : Int32) : CT := T.w_vote (ct2 T.vote o p v)
def CT.p_shown (T : CT) (o p : Nat) (v : Nat) : CT := T.w_shown (ct2 T.shown o p v)
def CT.p_src (T : CT) (o p : Nat) (v : Option Nat) : CT := T.w_src (ct2 T.src o p v)
def CT.p_ow (T : CT) (o p : Nat) (v : Bool) : CT := T.w_ow (ct2 T.ow o p v)
def y_drop (T : CT) (i : Nat) : CT := T.w_post (T.post.eraseIdx i)
def y_twin (T : CT) (i : Nat) : CT := match T.post[i]? with
  | none => T
  | some x => T.w_post (T.post ++ [x])
def z_votes (T : CT) (a v : Int32) : Int32 × CT := match inR a 6 with
  | none => (0, T.w_code 1)
  | some k => if v < 0 ∨ 10000000 < v then (0, T.w_code 2) else (T.draft k, (T.w_code 0).p_draft k v)
def z_precinct (T : CT) (a b r : Int32) : CT := match inR a 40 with
  | none => T.w_code 1
  | some p => match inR b 12 with
    | none => T.w_code 1
    | some o => if r < 0 ∨ 10000000 < r then T.w_code 2 else if T.there p = true then T.w_code 3 else (((T.w_code 0).p_there p true).p_home p o).p_reg p r
def z_drop (T : CT) (a : Int32) : Int32 × CT := match inR a T.post.length with
  | none => (0, T.w_code 1)
  | some i => (nI (T.post.length - 1), y_drop (T.w_code 0) i)
def z_twin (T : CT) (a : Int32) : Int32 × CT := match inR a T.post.length with
  | none => (0, T.w_code 1)
  | some i => if T.post.length = 500 then (0, T.w_code 2) else (nI (T.post.length + 1), y_twin (T.w_code 0) i)
def z_included (T : CT) (a b : Int32) : Int32 × CT := match inR a 12 with
  | none => (0, T.w_code 1)
  | some o => match inR b 40 with
    | none => (0, T.w_code 1)
    | some p => (T.num (T.shown o p), T.w_code 0)
def z_through (T : CT) (a b : Int32) : Int32 × CT := match inR a 12 with
  | none => (0, T.w_code 1)
  | some o => match inR b 40 with
    | none => (0, T.w_code 1)
    | some p => (oI (T.src o p), T.w_code 0)
def z_newest (T : CT) (a : Int32) : Int32 × CT := match inR a 40 with
  | none => (0, T.w_code 1)
  | some p => if T.there p = true then (T.num (T.last p), T.w_code 0) else (-1, T.w_code 0)
def z_deliver (T : CT) (a : Int32) : Bool × CT := match inR a T.post.length with
  | none => (false, T.w_code 1)
  | some i => match T.post[i]? with
    | none => (false, T)
    | some y => match T.par y.1 with
      | none => (false, y_drop (T.w_code 0) i)
      | some u => if T.ep y.1 = y.2.1 then (if y.2.2.1 = T.tk y.1 + 1 then (true, y_take ((y_drop (T.w_code 0) i).p_tk y.1 (T.tk y.1 + 1)) u y.1 y.2.2.2.1 y.2.2.2.2) else (false, y_drop (T.w_code 0) i)) else (false, y_drop (T.w_code 0) i)
theorem m_votes {l : Launch} {D : gzD} {K : gzK} {M : gzM} {n nc ns : Nat} {M0 : gzM} {S : gS} {L : gL} {T : CT} (hR : RF M0 S L M) (hT : Rel 12 true S T) {xk v : Int32} (k : ∀ S M, RF M0 S L M → Rel 12 true S (z_votes T xk v).2 → K (.inl (some (.int (z_votes T xk v).1))) M n nc ns) : GZ l P1 D F_M_votes K 0 [some (.ref 83), some (.int xk), some (.int v), none] [] M n nc ns := by
  refine gz_aload_n gd_M_votes_0 rfl rfl (gz_isr.r _) ?_
  refine gz_iload_n gd_M_votes_1 rfl rfl ?_
  refine gz_iconst (v := 0) gd_M_votes_2 (by decide) ?_
  refine gz_iconst (v := 5) gd_M_votes_3 (by decide) ?_
  refine gz_static3 gd_M_votes_4 gs_M_votes_4 (Nat.le_of_ble_eq_true rfl) (Nat.le_of_ble_eq_true rfl) ?_
  refine m_in (fun ha hb => ?_) (fun ha => ?_)
  ·
    obtain ⟨g, hg, rfl⟩ := op_ix ha hb
    have eg := inR_s hg (show 6 < 2 ^ 31 by decide)
    refine gz_if_ne (tgt := 14) gd_M_votes_7 (by decide) (fun h7 => ?_) (fun h7 => ?_)
    ·
      refine gz_iload_n gd_M_votes_14 rfl rfl ?_
      refine gz_iconst (v := 0) gd_M_votes_15 (by decide) ?_
      refine gz_ldc (v := 10000000) gd_M_votes_16 gw_879 ?_
      refine gz_static3 gd_M_votes_18 gs_M_votes_18 (Nat.le_of_ble_eq_true rfl) (Nat.le_of_ble_eq_true rfl) ?_
      refine m_in (fun ha hb => ?_) (fun ha => ?_)
      ·
        have v1 := not_or.2 ⟨ha, hb⟩
        refine gz_if_ne (tgt := 28) gd_M_votes_21 (by decide) (fun h21 => ?_) (fun h21 => ?_)
        ·
          refine gz_iconst (v := 0) gd_M_votes_28 (by decide) ?_
          refine mt_puti (T := T.w_code 0) gd_M_votes_29 gf_M_100 gr_M_votes_6_0 hR rfl hT.s_code (fun S M hR hT => ?_)
          refine gz_aload_n gd_M_votes_32 rfl rfl (gz_isr.r _) ?_
          refine mt_geti gd_M_votes_33 gf_M_100 hR rfl (show _ = (0 : Int32) from hT.code) ?_
          refine gz_if_le (tgt := 41) gd_M_votes_36 (by decide) (fun h36 => ?_) (fun h36 => ?_)
          ·
            refine gz_aload_n gd_M_votes_41 rfl rfl (gz_isr.r _) ?_
            refine md_getf gd_M_votes_42 gf_M_32 hR rfl ?_
            refine gz_iload_n gd_M_votes_45 rfl rfl ?_
            refine mt_iaload (a := 91) (i := g) gd_M_votes_46 hR rfl rfl (show _ < 6 from (by omega)) (show _ = T.draft g from (hT.draft g (by omega))) ?_
            refine gz_istore_n gd_M_votes_47 rfl (Nat.le_of_ble_eq_true rfl) rfl ?_
            refine gz_aload_n gd_M_votes_48 rfl rfl (gz_isr.r _) ?_
            refine md_getf gd_M_votes_49 gf_M_32 hR rfl ?_
            refine gz_iload_n gd_M_votes_52 rfl rfl ?_
            refine gz_iload_n gd_M_votes_53 rfl rfl ?_
            refine mt_iastore (T := (T.w_code 0).p_draft g v) (a := 91) (i := g) gd_M_votes_54 hR rfl rfl (show _ < 6 from (by omega)) (hT.s_draft hg rfl) (fun S M hR hT => ?_)
            refine gz_iload_n gd_M_votes_55 rfl rfl ?_
            refine gz_ireturn gd_M_votes_56 rfl rfl ?_
            simp only [z_votes, eg, if_neg v1] at k
            exact k _ _ hR hT
          ·
            exact absurd h36 (by decide)
        ·
          exact absurd h21 (by decide)
      ·
        have v1 := ha
        refine gz_if_ne (tgt := 28) gd_M_votes_21 (by decide) (fun h21 => ?_) (fun h21 => ?_)
        ·
          exact absurd h21 (by decide)
        ·
          refine gz_iconst (v := 2) gd_M_votes_24 (by decide) ?_
          refine gz_goto (tgt := 29) gd_M_votes_25 (by decide) ?_
          refine mt_puti (T := T.w_code 2) gd_M_votes_29 gf_M_100 gr_M_votes_6_0 hR rfl hT.s_code (fun S M hR hT => ?_)
          refine gz_aload_n gd_M_votes_32 rfl rfl (gz_isr.r _) ?_
          refine mt_geti gd_M_votes_33 gf_M_100 hR rfl (show _ = (2 : Int32) from hT.code) ?_
          refine gz_if_le (tgt := 41) gd_M_votes_36 (by decide) (fun h36 => ?_) (fun h36 => ?_)
          ·
            exact absurd h36 (by decide)
          ·
            refine gz_iconst (v := 0) gd_M_votes_39 (by decide) ?_
            refine gz_ireturn gd_M_votes_40 rfl rfl ?_
            simp only [z_votes, eg, if_pos v1] at k
            exact k _ _ hR hT
    ·
      exact absurd h7 (by decide)
  ·
    have eg := inR_n (n := 5) (by decide) rfl ha
    refine gz_if_ne (tgt := 14) gd_M_votes_7 (by decide) (fun h7 => ?_) (fun h7 => ?_)
    ·
      exact absurd h7 (by decide)
    ·
      refine gz_iconst (v := 1) gd_M_votes_10 (by decide) ?_
      refine gz_goto (tgt := 29) gd_M_votes_11 (by decide) ?_
      refine mt_puti (T := T.w_code 1) gd_M_votes_29 gf_M_100 gr_M_votes_6_0 hR rfl hT.s_code (fun S M hR hT => ?_)
      refine gz_aload_n gd_M_votes_32 rfl rfl (gz_isr.r _) ?_
      refine mt_geti gd_M_votes_33 gf_M_100 hR rfl (show _ = (1 : Int32) from hT.code) ?_
      refine gz_if_le (tgt := 41) gd_M_votes_36 (by decide) (fun h36 => ?_) (fun h36 => ?_)
      ·
        exact absurd h36 (by decide)
      ·
        refine gz_iconst (v := 0) gd_M_votes_39 (by decide) ?_
        refine gz_ireturn gd_M_votes_40 rfl rfl ?_
        simp only [z_votes, eg] at k
        exact k _ _ hR hT

theorem m_precinct {l : Launch} {D : gzD} {K : gzK} {M : gzM} {n nc ns : Nat} {M0 : gzM} {S : gS} {L : gL} {T : CT} (hR : RF M0 S L M) (hT : Rel 12 true S T) {xp xo r : Int32} (k : ∀ S M, RF M0 S L M → Rel 12 true S (z_precinct T xp xo r) → K (.inl none) M n nc ns) : GZ l P1 D F_M_precinct K 0 [some (.ref 83), some (.int xp), some (.int xo), some (.int r)] [] M n nc ns := by
  refine gz_aload_n gd_M_precinct_0 rfl rfl (gz_isr.r _) ?_
  refine gz_iload_n gd_M_precinct_1 rfl rfl ?_
  refine gz_static1 gd_M_precinct_2 gs_M_precinct_2 (Nat.le_of_ble_eq_true rfl) (Nat.le_of_ble_eq_true rfl) ?_
  refine m_isPlace (fun ha hb => ?_) (fun ha => ?_)
  ·
    obtain ⟨p, hp, rfl⟩ := pl_ix ha hb
    have ep := inR_s hp (show 40 < 2 ^ 31 by decide)
    refine gz_if_eq (tgt := 15) gd_M_precinct_5 (by decide) (fun h5 => ?_) (fun h5 => ?_)
    ·
      exact absurd h5 (by decide)
    ·
      refine gz_iload_n gd_M_precinct_8 rfl rfl ?_
      refine gz_static1 gd_M_precinct_9 gs_M_precinct_9 (Nat.le_of_ble_eq_true rfl) (Nat.le_of_ble_eq_true rfl) ?_
      refine m_isOffice (fun ha hb => ?_) (fun ha => ?_)
      ·
        obtain ⟨o, ho, rfl⟩ := of_ix ha hb
        have eo := inR_s ho (show 12 < 2 ^ 31 by decide)
        refine gz_if_ne (tgt := 19) gd_M_precinct_12 (by decide) (fun h12 => ?_) (fun h12 => ?_)
        ·
          refine gz_iload_n gd_M_precinct_19 rfl rfl ?_
          refine gz_iconst (v := 0) gd_M_precinct_20 (by decide) ?_
          refine gz_ldc (v := 10000000) gd_M_precinct_21 gw_879 ?_
          refine gz_static3 gd_M_precinct_23 gs_M_precinct_23 (Nat.le_of_ble_eq_true rfl) (Nat.le_of_ble_eq_true rfl) ?_
          refine m_in (fun ha hb => ?_) (fun ha => ?_)
          ·
            have v1 := not_or.2 ⟨ha, hb⟩
            refine gz_if_ne (tgt := 33) gd_M_precinct_26 (by decide) (fun h26 => ?_) (fun h26 => ?_)
            ·
              refine gz_aload_n gd_M_precinct_33 rfl rfl (gz_isr.r _) ?_
              refine md_getf gd_M_precinct_34 gf_M_7 hR rfl ?_
              refine gz_iload_n gd_M_precinct_37 rfl rfl ?_
              refine mt_zaload (a := 84) (i := p) gd_M_precinct_38 hR rfl rfl (show _ < 40 from (by omega)) (hT.there p (by omega)) ?_
              refine gz_if_eq (tgt := 46) gd_M_precinct_39 (by decide) (fun h39 => ?_) (fun h39 => ?_)
              ·
                replace h39 := bI_0.1 h39
                refine gz_iconst (v := 0) gd_M_precinct_46 (by decide) ?_
                refine mt_puti (T := T.w_code 0) gd_M_precinct_47 gf_M_100 gr_M_precinct_6_0 hR rfl hT.s_code (fun S M hR hT => ?_)
                refine gz_aload_n gd_M_precinct_50 rfl rfl (gz_isr.r _) ?_
                refine mt_geti gd_M_precinct_51 gf_M_100 hR rfl (show _ = (0 : Int32) from hT.code) ?_
                refine gz_if_ne (tgt := 78) gd_M_precinct_54 (by decide) (fun h54 => ?_) (fun h54 => ?_)
                ·
                  exact absurd h54 (by decide)
                ·
                  refine gz_aload_n gd_M_precinct_57 rfl rfl (gz_isr.r _) ?_
                  refine md_getf gd_M_precinct_58 gf_M_7 hR rfl ?_
                  refine gz_iload_n gd_M_precinct_61 rfl rfl ?_
                  refine gz_iconst (v := 1) gd_M_precinct_62 (by decide) ?_
                  refine mt_zastore (T := (T.w_code 0).p_there p true) (a := 84) (i := p) (t := true) gd_M_precinct_63 hR rfl rfl (show _ < 40 from (by omega)) (hT.s_there hp rfl) (fun S M hR hT => ?_)
                  refine gz_aload_n gd_M_precinct_64 rfl rfl (gz_isr.r _) ?_
                  refine md_getf gd_M_precinct_65 gf_M_13 hR rfl ?_
                  refine gz_iload_n gd_M_precinct_68 rfl rfl ?_
                  refine gz_iload_n gd_M_precinct_69 rfl rfl ?_
                  refine mt_iastore (T := ((T.w_code 0).p_there p true).p_home p o) (a := 85) (i := p) gd_M_precinct_70 hR rfl rfl (show _ < 40 from (by omega)) (hT.s_home hp rfl) (fun S M hR hT => ?_)
                  refine gz_aload_n gd_M_precinct_71 rfl rfl (gz_isr.r _) ?_
                  refine md_getf gd_M_precinct_72 gf_M_17 hR rfl ?_
                  refine gz_iload_n gd_M_precinct_75 rfl rfl ?_
                  refine gz_iload_n gd_M_precinct_76 rfl rfl ?_
                  refine mt_iastore (T := (((T.w_code 0).p_there p true).p_home p o).p_reg p r) (a := 86) (i := p) gd_M_precinct_77 hR rfl rfl (show _ < 40 from (by omega)) (hT.s_reg hp rfl) (fun S M hR hT => ?_)
                  refine gz_return gd_M_precinct_78 rfl ?_
                  simp only [z_precinct, ep, eo, if_neg v1, if_neg (bf h39)] at k
                  exact k _ _ hR hT
              ·
                replace h39 := bI_n.1 h39
                refine gz_iconst (v := 3) gd_M_precinct_42 (by decide) ?_
                refine gz_goto (tgt := 47) gd_M_precinct_43 (by decide) ?_
                refine mt_puti (T := T.w_code 3) gd_M_precinct_47 gf_M_100 gr_M_precinct_6_0 hR rfl hT.s_code (fun S M hR hT => ?_)
                refine gz_aload_n gd_M_precinct_50 rfl rfl (gz_isr.r _) ?_
                refine mt_geti gd_M_precinct_51 gf_M_100 hR rfl (show _ = (3 : Int32) from hT.code) ?_
                refine gz_if_ne (tgt := 78) gd_M_precinct_54 (by decide) (fun h54 => ?_) (fun h54 => ?_)
                ·
                  refine gz_return gd_M_precinct_78 rfl ?_
                  simp only [z_precinct, ep, eo, if_neg v1, if_pos h39] at k
                  exact k _ _ hR hT
                ·
                  exact absurd h54 (by decide)
            ·
              exact absurd h26 (by decide)
          ·
            have v1 := ha
            refine gz_if_ne (tgt := 33) gd_M_precinct_26 (by decide) (fun h26 => ?_) (fun h26 => ?_)
            ·
              exact absurd h26 (by decide)
            ·
              refine gz_iconst (v := 2) gd_M_precinct_29 (by decide) ?_
              refine gz_goto (tgt := 47) gd_M_precinct_30 (by decide) ?_
              refine mt_puti (T := T.w_code 2) gd_M_precinct_47 gf_M_100 gr_M_precinct_6_0 hR rfl hT.s_code (fun S M hR hT => ?_)
              refine gz_aload_n gd_M_precinct_50 rfl rfl (gz_isr.r _) ?_
              refine mt_geti gd_M_precinct_51 gf_M_100 hR rfl (show _ = (2 : Int32) from hT.code) ?_
              refine gz_if_ne (tgt := 78) gd_M_precinct_54 (by decide) (fun h54 => ?_) (fun h54 => ?_)
              ·
                refine gz_return gd_M_precinct_78 rfl ?_
                simp only [z_precinct, ep, eo, if_pos v1] at k
                exact k _ _ hR hT
              ·
                exact absurd h54 (by decide)
        ·
          exact absurd h12 (by decide)
      ·
        have eo := inR_n (n := 11) (by decide) rfl ha
        refine gz_if_ne (tgt := 19) gd_M_precinct_12 (by decide) (fun h12 => ?_) (fun h12 => ?_)
        ·
          exact absurd h12 (by decide)
        ·
          refine gz_iconst (v := 1) gd_M_precinct_15 (by decide) ?_
          refine gz_goto (tgt := 47) gd_M_precinct_16 (by decide) ?_
          refine mt_puti (T := T.w_code 1) gd_M_precinct_47 gf_M_100 gr_M_precinct_6_0 hR rfl hT.s_code (fun S M hR hT => ?_)
          refine gz_aload_n gd_M_precinct_50 rfl rfl (gz_isr.r _) ?_
          refine mt_geti gd_M_precinct_51 gf_M_100 hR rfl (show _ = (1 : Int32) from hT.code) ?_
          refine gz_if_ne (tgt := 78) gd_M_precinct_54 (by decide) (fun h54 => ?_) (fun h54 => ?_)
          ·
            refine gz_return gd_M_precinct_78 rfl ?_
            simp only [z_precinct, ep, eo] at k
            exact k _ _ hR hT
          ·
            exact absurd h54 (by decide)
  ·
    have ep := inR_n (n := 39) (by decide) rfl ha
    refine gz_if_eq (tgt := 15) gd_M_precinct_5 (by decide) (fun h5 => ?_) (fun h5 => ?_)
    ·
      refine gz_iconst (v := 1) gd_M_precinct_15 (by decide) ?_
      refine gz_goto (tgt := 47) gd_M_precinct_16 (by decide) ?_
      refine mt_puti (T := T.w_code 1) gd_M_precinct_47 gf_M_100 gr_M_precinct_6_0 hR rfl hT.s_code (fun S M hR hT => ?_)
      refine gz_aload_n gd_M_precinct_50 rfl rfl (gz_isr.r _) ?_
      refine mt_geti gd_M_precinct_51 gf_M_100 hR rfl (show _ = (1 : Int32) from hT.code) ?_
      refine gz_if_ne (tgt := 78) gd_M_precinct_54 (by decide) (fun h54 => ?_) (fun h54 => ?_)
      ·
        refine gz_return gd_M_precinct_78 rfl ?_
        simp only [z_precinct, ep] at k
        exact k _ _ hR hT
      ·
        exact absurd h54 (by decide)
    ·
      exact absurd h5 (by decide)

theorem m_drop {l : Launch} {D : gzD} {K : gzK} {M : gzM} {n nc ns : Nat} {M0 : gzM} {S : gS} {L : gL} {T : CT} (hR : RF M0 S L M) (hT : Rel 12 true S T) {xi : Int32} (hN : T.post.length ≤ 500) (k : ∀ S M, RF M0 S L M → Rel 12 true S (z_drop T xi).2 → K (.inl (some (.int (z_drop T xi).1))) M n nc ns) : GZ l P1 D F_M_drop K 0 [some (.ref 83), some (.int xi)] [] M n nc ns := by
  refine gz_aload_n gd_M_drop_0 rfl rfl (gz_isr.r _) ?_
  refine gz_aload_n gd_M_drop_1 rfl rfl (gz_isr.r _) ?_
  refine gz_iload_n gd_M_drop_2 rfl rfl ?_
  refine gz_virtual1 gd_M_drop_3 hR.1 rfl rfl gs_M_drop_3 (Nat.le_of_ble_eq_true rfl) (Nat.le_of_ble_eq_true rfl) ?_
  refine m_isLetter hR hT hN (fun i hi e => ?_) (fun ha => ?_)
  ·
    subst e
    have ei := inR_s hi (show T.post.length < 2 ^ 31 by omega)
    refine gz_if_eq (tgt := 13) gd_M_drop_6 (by decide) (fun h6 => ?_) (fun h6 => ?_)
    ·
      exact absurd h6 (by decide)
    ·
      refine gz_iconst (v := 0) gd_M_drop_9 (by decide) ?_
      refine gz_goto (tgt := 14) gd_M_drop_10 (by decide) ?_
      refine mt_puti (T := T.w_code 0) gd_M_drop_14 gf_M_100 gr_M_drop_6_0 hR rfl hT.s_code (fun S M hR hT => ?_)
      refine gz_aload_n gd_M_drop_17 rfl rfl (gz_isr.r _) ?_
      refine mt_geti gd_M_drop_18 gf_M_100 hR rfl (show _ = (0 : Int32) from hT.code) ?_
      refine gz_if_le (tgt := 26) gd_M_drop_21 (by decide) (fun h21 => ?_) (fun h21 => ?_)
      ·
        refine gz_aload_n gd_M_drop_26 rfl rfl (gz_isr.r _) ?_
        refine gz_iload_n gd_M_drop_27 rfl rfl ?_
        refine gz_virtual1 gd_M_drop_28 hR.1 rfl rfl gs_M_drop_28 (Nat.le_of_ble_eq_true rfl) (Nat.le_of_ble_eq_true rfl) ?_
        obtain ⟨y, hy⟩ : ∃ y, T.post[i]? = some y := ⟨T.post[i]'hi, List.getElem?_eq_getElem hi⟩
        refine m_takeOut (T := T.w_code 0) (i := i) (x := y) hR hT hN hi hy (fun S M hR hT hLt => ?_)
        refine gz_aload_n gd_M_drop_31 rfl rfl (gz_isr.r _) ?_
        refine mt_geti gd_M_drop_32 gf_M_112 hR rfl (show _ = nI (T.post.length - 1) from (hT.postN rfl).trans (congrArg nI (List.length_eraseIdx_of_lt hi))) ?_
        refine gz_ireturn gd_M_drop_35 rfl rfl ?_
        simp only [z_drop, ei] at k
        exact k _ _ hR hT
      ·
        exact absurd h21 (by decide)
  ·
    have ei := inR_none (show T.post.length < 2 ^ 31 by omega) ha
    refine gz_if_eq (tgt := 13) gd_M_drop_6 (by decide) (fun h6 => ?_) (fun h6 => ?_)
    ·
      refine gz_iconst (v := 1) gd_M_drop_13 (by decide) ?_
      refine mt_puti (T := T.w_code 1) gd_M_drop_14 gf_M_100 gr_M_drop_6_0 hR rfl hT.s_code (fun S M hR hT => ?_)
      refine gz_aload_n gd_M_drop_17 rfl rfl (gz_isr.r _) ?_
      refine mt_geti gd_M_drop_18 gf_M_100 hR rfl (show _ = (1 : Int32) from hT.code) ?_
      refine gz_if_le (tgt := 26) gd_M_drop_21 (by decide) (fun h21 => ?_) (fun h21 => ?_)
      ·
        exact absurd h21 (by decide)
      ·
        refine gz_iconst (v := 0) gd_M_drop_24 (by decide) ?_
        refine gz_ireturn gd_M_drop_25 rfl rfl ?_
        simp only [z_drop, ei] at k
        exact k _ _ hR hT
    ·
      exact absurd h6 (by decide)

theorem twin_rel {S : gS} {T : CT} (h : Rel 12 true S T) {i : Nat} {y : Nat × Int32 × Nat × Nat × Nat} (hN : T.post.length < 500) (hy : T.post[i]? = some y) : Rel 12 true (gs_set (cpL S i T.post.length) 83 23 (nI (T.post.length + 1))) (y_twin T i) := by
  unfold y_twin
  rw [hy]
  refine Rel.r_post (Rel.j_ln (Rel.cpL h.x_post)) ?_ ?_
  · rw [gs_same]
    simp
  · intro q x hq hx
    have hi := (List.getElem?_eq_some_iff.1 hy).1
    by_cases e : q < T.post.length
    · rw [List.getElem?_append_left e] at hx
      exact Lt.other (S := S) (a := i) (b := T.post.length) (Nat.ne_of_lt e) (h.post rfl q x hq hx)
    · have e2 : q = T.post.length := by
        have := (List.getElem?_eq_some_iff.1 hx).1
        simp at this
        omega
      subst e2
      simp at hx
      subst hx
      exact Lt.same (S := S) (a := i) (b := T.post.length) (h.post rfl i _ (by omega) hy)
theorem m_twin {l : Launch} {D : gzD} {K : gzK} {M : gzM} {n nc ns : Nat} {M0 : gzM} {S : gS} {L : gL} {T : CT} (hR : RF M0 S L M) (hT : Rel 12 true S T) {xi : Int32} (hN : T.post.length ≤ 500) (k : ∀ S M, RF M0 S L M → Rel 12 true S (z_twin T xi).2 → K (.inl (some (.int (z_twin T xi).1))) M n nc ns) : GZ l P1 D F_M_twin K 0 [some (.ref 83), some (.int xi)] [] M n nc ns := by
  refine gz_aload_n gd_M_twin_0 rfl rfl (gz_isr.r _) ?_
  refine gz_aload_n gd_M_twin_1 rfl rfl (gz_isr.r _) ?_
  refine gz_iload_n gd_M_twin_2 rfl rfl ?_
  refine gz_virtual1 gd_M_twin_3 hR.1 rfl rfl gs_M_twin_3 (Nat.le_of_ble_eq_true rfl) (Nat.le_of_ble_eq_true rfl) ?_
  refine m_isLetter hR hT hN (fun i hi e => ?_) (fun ha => ?_)
  ·
    subst e
    have ei := inR_s hi (show T.post.length < 2 ^ 31 by omega)
    refine gz_if_ne (tgt := 13) gd_M_twin_6 (by decide) (fun h6 => ?_) (fun h6 => ?_)
    ·
      refine gz_aload_n gd_M_twin_13 rfl rfl (gz_isr.r _) ?_
      refine mt_geti gd_M_twin_14 gf_M_112 hR rfl (show _ = nI T.post.length from (hT.postN rfl)) ?_
      refine gz_sipush (v := 500) gd_M_twin_17 (by decide) ?_
      refine gz_icmp_ne (tgt := 27) gd_M_twin_20 (by decide) (fun h20 => ?_) (fun h20 => ?_)
      ·
        replace h20 := mt (nI_eq (a := T.post.length) (b := 500) (by omega) (by omega)).2 h20
        refine gz_iconst (v := 0) gd_M_twin_27 (by decide) ?_
        refine mt_puti (T := T.w_code 0) gd_M_twin_28 gf_M_100 gr_M_twin_6_0 hR rfl hT.s_code (fun S M hR hT => ?_)
        refine gz_aload_n gd_M_twin_31 rfl rfl (gz_isr.r _) ?_
        refine mt_geti gd_M_twin_32 gf_M_100 hR rfl (show _ = (0 : Int32) from hT.code) ?_
        refine gz_if_le (tgt := 40) gd_M_twin_35 (by decide) (fun h35 => ?_) (fun h35 => ?_)
        ·
          refine gz_aload_n gd_M_twin_40 rfl rfl (gz_isr.r _) ?_
          refine gz_iload_n gd_M_twin_41 rfl rfl ?_
          refine gz_aload_n gd_M_twin_42 rfl rfl (gz_isr.r _) ?_
          refine mt_geti gd_M_twin_43 gf_M_112 hR rfl (show _ = nI T.post.length from (hT.postN rfl)) ?_
          refine gz_virtual2 gd_M_twin_46 hR.1 rfl rfl gs_M_twin_46 (Nat.le_of_ble_eq_true rfl) (Nat.le_of_ble_eq_true rfl) ?_
          refine m_copyLetter (x := i) (y := T.post.length) hR (by omega) (by omega) (fun M hR => ?_)
          obtain ⟨y, hy⟩ : ∃ y, T.post[i]? = some y := ⟨T.post[i]'hi, List.getElem?_eq_getElem hi⟩
          refine gz_aload_n gd_M_twin_49 rfl rfl (gz_isr.r _) ?_
          refine gz_dup gd_M_twin_50 rfl ?_
          refine mt_geti gd_M_twin_51 gf_M_112 hR rfl (show _ = nI T.post.length from (hT.postN rfl)) ?_
          refine gz_iconst (v := 1) gd_M_twin_54 (by decide) ?_
          refine gq_iadd (z := nI (T.post.length + 1)) gd_M_twin_55 (nI_add T.post.length 1) ?_
          refine mt_puti (T := y_twin (T.w_code 0) i) gd_M_twin_56 gf_M_112 gr_M_twin_6_23 hR rfl (twin_rel hT (show T.post.length < 500 by omega) hy) (fun S M hR hT => ?_)
          refine gz_aload_n gd_M_twin_59 rfl rfl (gz_isr.r _) ?_
          refine mt_geti gd_M_twin_60 gf_M_112 hR rfl (show _ = nI (T.post.length + 1) from (hT.postN rfl).trans (by unfold y_twin; rw [show (T.w_code 0).post[i]? = some y from hy]; exact congrArg nI (by show (T.post ++ [y]).length = _; simp))) ?_
          refine gz_ireturn gd_M_twin_63 rfl rfl ?_
          simp only [z_twin, ei, if_neg h20] at k
          exact k _ _ hR hT
        ·
          exact absurd h35 (by decide)
      ·
        replace h20 := (nI_eq (a := T.post.length) (b := 500) (by omega) (by omega)).1 h20
        refine gz_iconst (v := 2) gd_M_twin_23 (by decide) ?_
        refine gz_goto (tgt := 28) gd_M_twin_24 (by decide) ?_
        refine mt_puti (T := T.w_code 2) gd_M_twin_28 gf_M_100 gr_M_twin_6_0 hR rfl hT.s_code (fun S M hR hT => ?_)
        refine gz_aload_n gd_M_twin_31 rfl rfl (gz_isr.r _) ?_
        refine mt_geti gd_M_twin_32 gf_M_100 hR rfl (show _ = (2 : Int32) from hT.code) ?_
        refine gz_if_le (tgt := 40) gd_M_twin_35 (by decide) (fun h35 => ?_) (fun h35 => ?_)
        ·
          exact absurd h35 (by decide)
        ·
          refine gz_iconst (v := 0) gd_M_twin_38 (by decide) ?_
          refine gz_ireturn gd_M_twin_39 rfl rfl ?_
          simp only [z_twin, ei, if_pos h20] at k
          exact k _ _ hR hT
    ·
      exact absurd h6 (by decide)
  ·
    have ei := inR_none (show T.post.length < 2 ^ 31 by omega) ha
    refine gz_if_ne (tgt := 13) gd_M_twin_6 (by decide) (fun h6 => ?_) (fun h6 => ?_)
    ·
      exact absurd h6 (by decide)
    ·
      refine gz_iconst (v := 1) gd_M_twin_9 (by decide) ?_
      refine gz_goto (tgt := 28) gd_M_twin_10 (by decide) ?_
      refine mt_puti (T := T.w_code 1) gd_M_twin_28 gf_M_100 gr_M_twin_6_0 hR rfl hT.s_code (fun S M hR hT => ?_)
      refine gz_aload_n gd_M_twin_31 rfl rfl (gz_isr.r _) ?_
      refine mt_geti gd_M_twin_32 gf_M_100 hR rfl (show _ = (1 : Int32) from hT.code) ?_
      refine gz_if_le (tgt := 40) gd_M_twin_35 (by decide) (fun h35 => ?_) (fun h35 => ?_)
      ·
        exact absurd h35 (by decide)
      ·
        refine gz_iconst (v := 0) gd_M_twin_38 (by decide) ?_
        refine gz_ireturn gd_M_twin_39 rfl rfl ?_
        simp only [z_twin, ei] at k
        exact k _ _ hR hT

theorem m_included {l : Launch} {D : gzD} {K : gzK} {M : gzM} {n nc ns : Nat} {M0 : gzM} {S : gS} {L : gL} {T : CT} (hR : RF M0 S L M) (hT : Rel 12 true S T) {xo xp : Int32} (hB : Bd T) (k : ∀ S M, RF M0 S L M → Rel 12 true S (z_included T xo xp).2 → K (.inl (some (.int (z_included T xo xp).1))) M n nc ns) : GZ l P1 D F_M_included K 0 [some (.ref 83), some (.int xo), some (.int xp)] [] M n nc ns := by
  refine gz_aload_n gd_M_included_0 rfl rfl (gz_isr.r _) ?_
  refine gz_iload_n gd_M_included_1 rfl rfl ?_
  refine gz_static1 gd_M_included_2 gs_M_included_2 (Nat.le_of_ble_eq_true rfl) (Nat.le_of_ble_eq_true rfl) ?_
  refine m_isOffice (fun ha hb => ?_) (fun ha => ?_)
  ·
    obtain ⟨o, ho, rfl⟩ := of_ix ha hb
    have eo := inR_s ho (show 12 < 2 ^ 31 by decide)
    refine gz_if_eq (tgt := 19) gd_M_included_5 (by decide) (fun h5 => ?_) (fun h5 => ?_)
    ·
      exact absurd h5 (by decide)
    ·
      refine gz_iload_n gd_M_included_8 rfl rfl ?_
      refine gz_static1 gd_M_included_9 gs_M_included_9 (Nat.le_of_ble_eq_true rfl) (Nat.le_of_ble_eq_true rfl) ?_
      refine m_isPlace (fun ha hb => ?_) (fun ha => ?_)
      ·
        obtain ⟨p, hp, rfl⟩ := pl_ix ha hb
        have ep := inR_s hp (show 40 < 2 ^ 31 by decide)
        refine gz_if_eq (tgt := 19) gd_M_included_12 (by decide) (fun h12 => ?_) (fun h12 => ?_)
        ·
          exact absurd h12 (by decide)
        ·
          refine gz_iconst (v := 0) gd_M_included_15 (by decide) ?_
          refine gz_goto (tgt := 20) gd_M_included_16 (by decide) ?_
          refine mt_puti (T := T.w_code 0) gd_M_included_20 gf_M_100 gr_M_included_6_0 hR rfl hT.s_code (fun S M hR hT => ?_)
          refine gz_aload_n gd_M_included_23 rfl rfl (gz_isr.r _) ?_
          refine mt_geti gd_M_included_24 gf_M_100 hR rfl (show _ = (0 : Int32) from hT.code) ?_
          refine gz_if_le (tgt := 34) gd_M_included_27 (by decide) (fun h27 => ?_) (fun h27 => ?_)
          ·
            refine gz_aload_n gd_M_included_34 rfl rfl (gz_isr.r _) ?_
            refine md_getf gd_M_included_35 gf_M_23 hR rfl ?_
            refine gz_aload_n gd_M_included_38 rfl rfl (gz_isr.r _) ?_
            refine md_getf gd_M_included_39 gf_M_44 hR rfl ?_
            refine gz_bipush (v := 40) gd_M_included_42 (by decide) ?_
            refine gz_iload_n gd_M_included_44 rfl rfl ?_
            refine gq_imul (z := nI (40 * o)) gd_M_included_45 (pk_mul 40 o) ?_
            refine gz_iload_n gd_M_included_46 rfl rfl ?_
            refine gq_iadd (z := nI (40 * o + p)) gd_M_included_47 (nI_add (40 * o) p) ?_
            refine mt_iaload (a := 95) (i := 40 * o + p) gd_M_included_48 hR rfl rfl (show _ < 480 from (by omega)) (show _ = nI (T.shown o p) from (hT.shown o p (by omega) (by omega))) ?_
            have hs := hB.shown o p ho hp
            have := hB.vs
            refine mt_iaload (a := 88) (i := T.shown o p) gd_M_included_49 hR rfl rfl (show _ < 301 from (by omega)) (show _ = T.num (T.shown o p) from (hT.num (T.shown o p) (by omega))) ?_
            refine gz_ireturn gd_M_included_50 rfl rfl ?_
            simp only [z_included, eo, ep] at k
            exact k _ _ hR hT
          ·
            exact absurd h27 (by decide)
      ·
        have ep := inR_n (n := 39) (by decide) rfl ha
        refine gz_if_eq (tgt := 19) gd_M_included_12 (by decide) (fun h12 => ?_) (fun h12 => ?_)
        ·
          refine gz_iconst (v := 1) gd_M_included_19 (by decide) ?_
          refine mt_puti (T := T.w_code 1) gd_M_included_20 gf_M_100 gr_M_included_6_0 hR rfl hT.s_code (fun S M hR hT => ?_)
          refine gz_aload_n gd_M_included_23 rfl rfl (gz_isr.r _) ?_
          refine mt_geti gd_M_included_24 gf_M_100 hR rfl (show _ = (1 : Int32) from hT.code) ?_
          refine gz_if_le (tgt := 34) gd_M_included_27 (by decide) (fun h27 => ?_) (fun h27 => ?_)
          ·
            exact absurd h27 (by decide)
          ·
            refine gz_iconst (v := 0) gd_M_included_30 (by decide) ?_
            refine gz_goto (tgt := 50) gd_M_included_31 (by decide) ?_
            refine gz_ireturn gd_M_included_50 rfl rfl ?_
            simp only [z_included, eo, ep] at k
            exact k _ _ hR hT
        ·
          exact absurd h12 (by decide)
  ·
    have eo := inR_n (n := 11) (by decide) rfl ha
    refine gz_if_eq (tgt := 19) gd_M_included_5 (by decide) (fun h5 => ?_) (fun h5 => ?_)
    ·
      refine gz_iconst (v := 1) gd_M_included_19 (by decide) ?_
      refine mt_puti (T := T.w_code 1) gd_M_included_20 gf_M_100 gr_M_included_6_0 hR rfl hT.s_code (fun S M hR hT => ?_)
      refine gz_aload_n gd_M_included_23 rfl rfl (gz_isr.r _) ?_
      refine mt_geti gd_M_included_24 gf_M_100 hR rfl (show _ = (1 : Int32) from hT.code) ?_
      refine gz_if_le (tgt := 34) gd_M_included_27 (by decide) (fun h27 => ?_) (fun h27 => ?_)
      ·
        exact absurd h27 (by decide)
      ·
        refine gz_iconst (v := 0) gd_M_included_30 (by decide) ?_
        refine gz_goto (tgt := 50) gd_M_included_31 (by decide) ?_
        refine gz_ireturn gd_M_included_50 rfl rfl ?_
        simp only [z_included, eo] at k
        exact k _ _ hR hT
    ·
      exact absurd h5 (by decide)

theorem m_through {l : Launch} {D : gzD} {K : gzK} {M : gzM} {n nc ns : Nat} {M0 : gzM} {S : gS} {L : gL} {T : CT} (hR : RF M0 S L M) (hT : Rel 12 true S T) {xo xp : Int32} (hB : Bd T) (k : ∀ S M, RF M0 S L M → Rel 12 true S (z_through T xo xp).2 → K (.inl (some (.int (z_through T xo xp).1))) M n nc ns) : GZ l P1 D F_M_through K 0 [some (.ref 83), some (.int xo), some (.int xp)] [] M n nc ns := by
  refine gz_aload_n gd_M_through_0 rfl rfl (gz_isr.r _) ?_
  refine gz_iload_n gd_M_through_1 rfl rfl ?_
  refine gz_static1 gd_M_through_2 gs_M_through_2 (Nat.le_of_ble_eq_true rfl) (Nat.le_of_ble_eq_true rfl) ?_
  refine m_isOffice (fun ha hb => ?_) (fun ha => ?_)
  ·
    obtain ⟨o, ho, rfl⟩ := of_ix ha hb
    have eo := inR_s ho (show 12 < 2 ^ 31 by decide)
    refine gz_if_eq (tgt := 19) gd_M_through_5 (by decide) (fun h5 => ?_) (fun h5 => ?_)
    ·
      exact absurd h5 (by decide)
    ·
      refine gz_iload_n gd_M_through_8 rfl rfl ?_
      refine gz_static1 gd_M_through_9 gs_M_through_9 (Nat.le_of_ble_eq_true rfl) (Nat.le_of_ble_eq_true rfl) ?_
      refine m_isPlace (fun ha hb => ?_) (fun ha => ?_)
      ·
        obtain ⟨p, hp, rfl⟩ := pl_ix ha hb
        have ep := inR_s hp (show 40 < 2 ^ 31 by decide)
        refine gz_if_eq (tgt := 19) gd_M_through_12 (by decide) (fun h12 => ?_) (fun h12 => ?_)
        ·
          exact absurd h12 (by decide)
        ·
          refine gz_iconst (v := 0) gd_M_through_15 (by decide) ?_
          refine gz_goto (tgt := 20) gd_M_through_16 (by decide) ?_
          refine mt_puti (T := T.w_code 0) gd_M_through_20 gf_M_100 gr_M_through_6_0 hR rfl hT.s_code (fun S M hR hT => ?_)
          refine gz_aload_n gd_M_through_23 rfl rfl (gz_isr.r _) ?_
          refine mt_geti gd_M_through_24 gf_M_100 hR rfl (show _ = (0 : Int32) from hT.code) ?_
          refine gz_if_le (tgt := 34) gd_M_through_27 (by decide) (fun h27 => ?_) (fun h27 => ?_)
          ·
            refine gz_aload_n gd_M_through_34 rfl rfl (gz_isr.r _) ?_
            refine md_getf gd_M_through_35 gf_M_47 hR rfl ?_
            refine gz_bipush (v := 40) gd_M_through_38 (by decide) ?_
            refine gz_iload_n gd_M_through_40 rfl rfl ?_
            refine gq_imul (z := nI (40 * o)) gd_M_through_41 (pk_mul 40 o) ?_
            refine gz_iload_n gd_M_through_42 rfl rfl ?_
            refine gq_iadd (z := nI (40 * o + p)) gd_M_through_43 (nI_add (40 * o) p) ?_
            refine mt_iaload (a := 96) (i := 40 * o + p) gd_M_through_44 hR rfl rfl (show _ < 480 from (by omega)) (show _ = oI (T.src o p) from (hT.src o p (by omega) (by omega))) ?_
            refine gz_ireturn gd_M_through_45 rfl rfl ?_
            simp only [z_through, eo, ep] at k
            exact k _ _ hR hT
          ·
            exact absurd h27 (by decide)
      ·
        have ep := inR_n (n := 39) (by decide) rfl ha
        refine gz_if_eq (tgt := 19) gd_M_through_12 (by decide) (fun h12 => ?_) (fun h12 => ?_)
        ·
          refine gz_iconst (v := 1) gd_M_through_19 (by decide) ?_
          refine mt_puti (T := T.w_code 1) gd_M_through_20 gf_M_100 gr_M_through_6_0 hR rfl hT.s_code (fun S M hR hT => ?_)
          refine gz_aload_n gd_M_through_23 rfl rfl (gz_isr.r _) ?_
          refine mt_geti gd_M_through_24 gf_M_100 hR rfl (show _ = (1 : Int32) from hT.code) ?_
          refine gz_if_le (tgt := 34) gd_M_through_27 (by decide) (fun h27 => ?_) (fun h27 => ?_)
          ·
            exact absurd h27 (by decide)
          ·
            refine gz_iconst (v := 0) gd_M_through_30 (by decide) ?_
            refine gz_goto (tgt := 45) gd_M_through_31 (by decide) ?_
            refine gz_ireturn gd_M_through_45 rfl rfl ?_
            simp only [z_through, eo, ep] at k
            exact k _ _ hR hT
        ·
          exact absurd h12 (by decide)
  ·
    have eo := inR_n (n := 11) (by decide) rfl ha
    refine gz_if_eq (tgt := 19) gd_M_through_5 (by decide) (fun h5 => ?_) (fun h5 => ?_)
    ·
      refine gz_iconst (v := 1) gd_M_through_19 (by decide) ?_
      refine mt_puti (T := T.w_code 1) gd_M_through_20 gf_M_100 gr_M_through_6_0 hR rfl hT.s_code (fun S M hR hT => ?_)
      refine gz_aload_n gd_M_through_23 rfl rfl (gz_isr.r _) ?_
      refine mt_geti gd_M_through_24 gf_M_100 hR rfl (show _ = (1 : Int32) from hT.code) ?_
      refine gz_if_le (tgt := 34) gd_M_through_27 (by decide) (fun h27 => ?_) (fun h27 => ?_)
      ·
        exact absurd h27 (by decide)
      ·
        refine gz_iconst (v := 0) gd_M_through_30 (by decide) ?_
        refine gz_goto (tgt := 45) gd_M_through_31 (by decide) ?_
        refine gz_ireturn gd_M_through_45 rfl rfl ?_
        simp only [z_through, eo] at k
        exact k _ _ hR hT
    ·
      exact absurd h5 (by decide)

theorem m_newest {l : Launch} {D : gzD} {K : gzK} {M : gzM} {n nc ns : Nat} {M0 : gzM} {S : gS} {L : gL} {T : CT} (hR : RF M0 S L M) (hT : Rel 12 true S T) {xp : Int32} (hB : Bd T) (k : ∀ S M, RF M0 S L M → Rel 12 true S (z_newest T xp).2 → K (.inl (some (.int (z_newest T xp).1))) M n nc ns) : GZ l P1 D F_M_newest K 0 [some (.ref 83), some (.int xp)] [] M n nc ns := by
  refine gz_aload_n gd_M_newest_0 rfl rfl (gz_isr.r _) ?_
  refine gz_iload_n gd_M_newest_1 rfl rfl ?_
  refine gz_static1 gd_M_newest_2 gs_M_newest_2 (Nat.le_of_ble_eq_true rfl) (Nat.le_of_ble_eq_true rfl) ?_
  refine m_isPlace (fun ha hb => ?_) (fun ha => ?_)
  ·
    obtain ⟨p, hp, rfl⟩ := pl_ix ha hb
    have ep := inR_s hp (show 40 < 2 ^ 31 by decide)
    refine gz_if_eq (tgt := 12) gd_M_newest_5 (by decide) (fun h5 => ?_) (fun h5 => ?_)
    ·
      exact absurd h5 (by decide)
    ·
      refine gz_iconst (v := 0) gd_M_newest_8 (by decide) ?_
      refine gz_goto (tgt := 13) gd_M_newest_9 (by decide) ?_
      refine mt_puti (T := T.w_code 0) gd_M_newest_13 gf_M_100 gr_M_newest_6_0 hR rfl hT.s_code (fun S M hR hT => ?_)
      refine gz_aload_n gd_M_newest_16 rfl rfl (gz_isr.r _) ?_
      refine mt_geti gd_M_newest_17 gf_M_100 hR rfl (show _ = (0 : Int32) from hT.code) ?_
      refine gz_if_le (tgt := 27) gd_M_newest_20 (by decide) (fun h20 => ?_) (fun h20 => ?_)
      ·
        refine gz_aload_n gd_M_newest_27 rfl rfl (gz_isr.r _) ?_
        refine md_getf gd_M_newest_28 gf_M_7 hR rfl ?_
        refine gz_iload_n gd_M_newest_31 rfl rfl ?_
        refine mt_zaload (a := 84) (i := p) gd_M_newest_32 hR rfl rfl (show _ < 40 from (by omega)) (show _ = bI (T.there p) from (hT.there p (by omega))) ?_
        refine gz_if_eq (tgt := 50) gd_M_newest_33 (by decide) (fun h33 => ?_) (fun h33 => ?_)
        ·
          replace h33 := bI_0.1 h33
          refine gz_iconst (v := -1) gd_M_newest_50 (by decide) ?_
          refine gz_ireturn gd_M_newest_51 rfl rfl ?_
          simp only [z_newest, ep, if_neg (bf h33)] at k
          exact k _ _ hR hT
        ·
          replace h33 := bI_n.1 h33
          refine gz_aload_n gd_M_newest_36 rfl rfl (gz_isr.r _) ?_
          refine md_getf gd_M_newest_37 gf_M_23 hR rfl ?_
          refine gz_aload_n gd_M_newest_40 rfl rfl (gz_isr.r _) ?_
          refine md_getf gd_M_newest_41 gf_M_20 hR rfl ?_
          refine gz_iload_n gd_M_newest_44 rfl rfl ?_
          refine mt_iaload (a := 87) (i := p) gd_M_newest_45 hR rfl rfl (show _ < 40 from (by omega)) (show _ = nI (T.last p) from (hT.last p (by omega))) ?_
          have hs := hB.last p hp
          have := hB.vs
          refine mt_iaload (a := 88) (i := T.last p) gd_M_newest_46 hR rfl rfl (show _ < 301 from (by omega)) (show _ = T.num (T.last p) from (hT.num (T.last p) (by omega))) ?_
          refine gz_goto (tgt := 51) gd_M_newest_47 (by decide) ?_
          refine gz_ireturn gd_M_newest_51 rfl rfl ?_
          simp only [z_newest, ep, if_pos h33] at k
          exact k _ _ hR hT
      ·
        exact absurd h20 (by decide)
  ·
    have ep := inR_n (n := 39) (by decide) rfl ha
    refine gz_if_eq (tgt := 12) gd_M_newest_5 (by decide) (fun h5 => ?_) (fun h5 => ?_)
    ·
      refine gz_iconst (v := 1) gd_M_newest_12 (by decide) ?_
      refine mt_puti (T := T.w_code 1) gd_M_newest_13 gf_M_100 gr_M_newest_6_0 hR rfl hT.s_code (fun S M hR hT => ?_)
      refine gz_aload_n gd_M_newest_16 rfl rfl (gz_isr.r _) ?_
      refine mt_geti gd_M_newest_17 gf_M_100 hR rfl (show _ = (1 : Int32) from hT.code) ?_
      refine gz_if_le (tgt := 27) gd_M_newest_20 (by decide) (fun h20 => ?_) (fun h20 => ?_)
      ·
        exact absurd h20 (by decide)
      ·
        refine gz_iconst (v := 0) gd_M_newest_23 (by decide) ?_
        refine gz_goto (tgt := 51) gd_M_newest_24 (by decide) ?_
        refine gz_ireturn gd_M_newest_51 rfl rfl ?_
        simp only [z_newest, ep] at k
        exact k _ _ hR hT
    ·
      exact absurd h5 (by decide)

theorem JI.code {T : CT} (h : JI T) {v : Int32} : JI (T.w_code v) := ⟨h.1.w_code, h.2.1, h.2.2⟩
theorem JI.drop {T : CT} (h : JI T) {i : Nat} : JI (y_drop T i) := by
  refine ⟨h.1.w_post ?_ (fun x hx => h.1.post x (List.mem_of_mem_eraseIdx hx)), h.2.1, h.2.2⟩
  exact Nat.le_trans (List.length_eraseIdx_le _ _) h.1.postN
theorem JI.p_tk {T : CT} (h : JI T) {o v : Nat} (hv : v ≤ 9000) : JI (T.p_tk o v) := ⟨h.1.w_tk hv, h.2.1, h.2.2⟩
theorem m_deliver {l : Launch} {D : gzD} {K : gzK} {M : gzM} {n nc ns : Nat} {M0 : gzM} {S : gS} {L : gL} {T : CT} (hR : RF M0 S L M) (hT : Rel 12 true S T) {xi : Int32} (hI : JI T) (hP : pot T < 9000) (hW : ∀ {c : Nat}, (T.wt c).length < 2000) (k : ∀ S M, RF M0 S L M → Rel 12 true S (z_deliver T xi).2 → K (.inl (some (.int (bI (z_deliver T xi).1)))) M n nc ns) : GZ l P1 D F_M_deliver K 0 [some (.ref 83), some (.int xi), none, none] [] M n nc ns := by
  have hN := hI.1.postN
  refine gz_aload_n gd_M_deliver_0 rfl rfl (gz_isr.r _) ?_
  refine gz_aload_n gd_M_deliver_1 rfl rfl (gz_isr.r _) ?_
  refine gz_iload_n gd_M_deliver_2 rfl rfl ?_
  refine gz_virtual1 gd_M_deliver_3 hR.1 rfl rfl gs_M_deliver_3 (Nat.le_of_ble_eq_true rfl) (Nat.le_of_ble_eq_true rfl) ?_
  refine m_isLetter hR hT hN (fun i hi e => ?_) (fun ha => ?_)
  ·
    subst e
    have ei := inR_s hi (show T.post.length < 2 ^ 31 by omega)
    refine gz_if_eq (tgt := 13) gd_M_deliver_6 (by decide) (fun h6 => ?_) (fun h6 => ?_)
    ·
      exact absurd h6 (by decide)
    ·
      refine gz_iconst (v := 0) gd_M_deliver_9 (by decide) ?_
      refine gz_goto (tgt := 14) gd_M_deliver_10 (by decide) ?_
      refine mt_puti (T := T.w_code 0) gd_M_deliver_14 gf_M_100 gr_M_deliver_6_0 hR rfl hT.s_code (fun S M hR hT => ?_)
      refine gz_aload_n gd_M_deliver_17 rfl rfl (gz_isr.r _) ?_
      refine mt_geti gd_M_deliver_18 gf_M_100 hR rfl (show _ = (0 : Int32) from hT.code) ?_
      refine gz_if_le (tgt := 26) gd_M_deliver_21 (by decide) (fun h21 => ?_) (fun h21 => ?_)
      ·
        refine gz_aload_n gd_M_deliver_26 rfl rfl (gz_isr.r _) ?_
        refine gz_iload_n gd_M_deliver_27 rfl rfl ?_
        refine gz_virtual1 gd_M_deliver_28 hR.1 rfl rfl gs_M_deliver_28 (Nat.le_of_ble_eq_true rfl) (Nat.le_of_ble_eq_true rfl) ?_
        obtain ⟨y, hy⟩ : ∃ y, T.post[i]? = some y := ⟨T.post[i]'hi, List.getElem?_eq_getElem hi⟩
        refine m_takeOut (T := T.w_code 0) (i := i) (x := y) hR hT hN hi hy (fun S M hR hT hLt => ?_)
        refine gz_aload_n gd_M_deliver_31 rfl rfl (gz_isr.r _) ?_
        refine md_getf gd_M_deliver_32 gf_M_75 hR rfl ?_
        refine gz_sipush (v := 500) gd_M_deliver_35 (by decide) ?_
        refine mt_iaload (a := 105) (i := 500) gd_M_deliver_38 hR rfl rfl (show _ < 501 from (by omega)) (show _ = nI y.1 from hLt.1) ?_
        refine gz_istore_n gd_M_deliver_39 rfl (Nat.le_of_ble_eq_true rfl) rfl ?_
        have hyB := hI.1.post y (List.mem_of_getElem? hy)
        obtain ⟨hy1, hy2, hy3, hy4, hy5⟩ := hyB
        cases hu : T.par y.1 with
        | none =>
          refine gz_aload_n gd_M_deliver_40 rfl rfl (gz_isr.r _) ?_
          refine md_getf gd_M_deliver_41 gf_M_38 hR rfl ?_
          refine gz_iload_n gd_M_deliver_44 rfl rfl ?_
          refine mt_iaload (a := 93) (i := y.1) gd_M_deliver_45 hR rfl rfl (show _ < 12 from (by omega)) (show _ = (-1 : Int32) from (hT.par y.1 hy1).trans (congrArg oI hu)) ?_
          refine gz_if_lt (tgt := 89) gd_M_deliver_46 (by decide) (fun h46 => ?_) (fun h46 => ?_)
          ·
            refine gz_iconst (v := 0) gd_M_deliver_89 (by decide) ?_
            refine gz_istore_n gd_M_deliver_90 rfl (Nat.le_of_ble_eq_true rfl) rfl ?_
            refine gz_iload_n gd_M_deliver_91 rfl rfl ?_
            refine gz_if_eq (tgt := 132) gd_M_deliver_92 (by decide) (fun h92 => ?_) (fun h92 => ?_)
            ·
              refine gz_iload_n gd_M_deliver_132 rfl rfl ?_
              refine gz_ireturn gd_M_deliver_133 rfl rfl ?_
              simp only [z_deliver, ei, hy, hu] at k
              exact k _ _ hR hT
            ·
              exact absurd h92 (by decide)
          ·
            exact absurd h46 (by decide)
        | some u =>
          have hu1 := hI.1.par y.1 u hy1 hu
          refine gz_aload_n gd_M_deliver_40 rfl rfl (gz_isr.r _) ?_
          refine md_getf gd_M_deliver_41 gf_M_38 hR rfl ?_
          refine gz_iload_n gd_M_deliver_44 rfl rfl ?_
          refine mt_iaload (a := 93) (i := y.1) gd_M_deliver_45 hR rfl rfl (show _ < 12 from (by omega)) (show _ = nI u from (hT.par y.1 hy1).trans (congrArg oI hu)) ?_
          refine gz_if_lt (tgt := 89) gd_M_deliver_46 (by decide) (fun h46 => ?_) (fun h46 => ?_)
          ·
            exact absurd h46 (nI_pos (by omega))
          ·
            refine gz_aload_n gd_M_deliver_49 rfl rfl (gz_isr.r _) ?_
            refine md_getf gd_M_deliver_50 gf_M_41 hR rfl ?_
            refine gz_iload_n gd_M_deliver_53 rfl rfl ?_
            refine mt_iaload (a := 94) (i := y.1) gd_M_deliver_54 hR rfl rfl (show _ < 12 from (by omega)) (show _ = T.ep y.1 from hT.ep y.1 hy1) ?_
            refine gz_aload_n gd_M_deliver_55 rfl rfl (gz_isr.r _) ?_
            refine md_getf gd_M_deliver_56 gf_M_78 hR rfl ?_
            refine gz_sipush (v := 500) gd_M_deliver_59 (by decide) ?_
            refine mt_iaload (a := 106) (i := 500) gd_M_deliver_62 hR rfl rfl (show _ < 501 from (by omega)) (show _ = y.2.1 from hLt.2.1) ?_
            refine gz_icmp_ne (tgt := 89) gd_M_deliver_63 (by decide) (fun h63 => ?_) (fun h63 => ?_)
            ·
              refine gz_iconst (v := 0) gd_M_deliver_89 (by decide) ?_
              refine gz_istore_n gd_M_deliver_90 rfl (Nat.le_of_ble_eq_true rfl) rfl ?_
              refine gz_iload_n gd_M_deliver_91 rfl rfl ?_
              refine gz_if_eq (tgt := 132) gd_M_deliver_92 (by decide) (fun h92 => ?_) (fun h92 => ?_)
              ·
                refine gz_iload_n gd_M_deliver_132 rfl rfl ?_
                refine gz_ireturn gd_M_deliver_133 rfl rfl ?_
                simp only [z_deliver, ei, hy, hu, if_neg h63] at k
                exact k _ _ hR hT
              ·
                exact absurd h92 (by decide)
            ·
              refine gz_aload_n gd_M_deliver_66 rfl rfl (gz_isr.r _) ?_
              refine md_getf gd_M_deliver_67 gf_M_81 hR rfl ?_
              refine gz_sipush (v := 500) gd_M_deliver_70 (by decide) ?_
              refine mt_iaload (a := 107) (i := 500) gd_M_deliver_73 hR rfl rfl (show _ < 501 from (by omega)) (show _ = nI y.2.2.1 from hLt.2.2.1) ?_
              refine gz_aload_n gd_M_deliver_74 rfl rfl (gz_isr.r _) ?_
              refine md_getf gd_M_deliver_75 gf_M_63 hR rfl ?_
              refine gz_iload_n gd_M_deliver_78 rfl rfl ?_
              have htk : T.tk y.1 ≤ 9000 := hI.1.tk y.1 hy1
              refine mt_iaload (a := 101) (i := y.1) gd_M_deliver_79 hR rfl rfl (show _ < 12 from (by omega)) (show _ = nI (T.tk y.1) from hT.tk y.1 hy1) ?_
              refine gz_iconst (v := 1) gd_M_deliver_80 (by decide) ?_
              refine gq_iadd (z := nI (T.tk y.1 + 1)) gd_M_deliver_81 (nI_add (T.tk y.1) 1) ?_
              refine gz_icmp_ne (tgt := 89) gd_M_deliver_82 (by decide) (fun h82 => ?_) (fun h82 => ?_)
              ·
                replace h82 := mt (nI_eq (a := y.2.2.1) (b := T.tk y.1 + 1) (by omega) (by omega)).2 h82
                refine gz_iconst (v := 0) gd_M_deliver_89 (by decide) ?_
                refine gz_istore_n gd_M_deliver_90 rfl (Nat.le_of_ble_eq_true rfl) rfl ?_
                refine gz_iload_n gd_M_deliver_91 rfl rfl ?_
                refine gz_if_eq (tgt := 132) gd_M_deliver_92 (by decide) (fun h92 => ?_) (fun h92 => ?_)
                ·
                  refine gz_iload_n gd_M_deliver_132 rfl rfl ?_
                  refine gz_ireturn gd_M_deliver_133 rfl rfl ?_
                  simp only [z_deliver, ei, hy, hu, if_pos h63, if_neg h82] at k
                  exact k _ _ hR hT
                ·
                  exact absurd h92 (by decide)
              ·
                replace h82 := (nI_eq (a := y.2.2.1) (b := T.tk y.1 + 1) (by omega) (by omega)).1 h82
                refine gz_iconst (v := 1) gd_M_deliver_85 (by decide) ?_
                refine gz_goto (tgt := 90) gd_M_deliver_86 (by decide) ?_
                refine gz_istore_n gd_M_deliver_90 rfl (Nat.le_of_ble_eq_true rfl) rfl ?_
                refine gz_iload_n gd_M_deliver_91 rfl rfl ?_
                refine gz_if_eq (tgt := 132) gd_M_deliver_92 (by decide) (fun h92 => ?_) (fun h92 => ?_)
                ·
                  exact absurd h92 (by decide)
                ·
                  refine gz_aload_n gd_M_deliver_95 rfl rfl (gz_isr.r _) ?_
                  refine md_getf gd_M_deliver_96 gf_M_63 hR rfl ?_
                  refine gz_iload_n gd_M_deliver_99 rfl rfl ?_
                  refine gz_dup2 gd_M_deliver_100 rfl rfl ?_
                  refine mt_iaload (a := 101) (i := y.1) gd_M_deliver_101 hR rfl rfl (show _ < 12 from (by omega)) (show _ = nI (T.tk y.1) from hT.tk y.1 hy1) ?_
                  refine gz_iconst (v := 1) gd_M_deliver_102 (by decide) ?_
                  refine gq_iadd (z := nI (T.tk y.1 + 1)) gd_M_deliver_103 (nI_add (T.tk y.1) 1) ?_
                  refine md_iastore (a := 101) (i := y.1) gd_M_deliver_104 hR rfl rfl rfl (show _ < 12 from (by omega)) (fun M hR => ?_)
                  refine gz_aload_n gd_M_deliver_105 rfl rfl (gz_isr.r _) ?_
                  refine gz_aload_n gd_M_deliver_106 rfl rfl (gz_isr.r _) ?_
                  refine md_getf gd_M_deliver_107 gf_M_38 hR rfl ?_
                  refine gz_iload_n gd_M_deliver_110 rfl rfl ?_
                  refine mt_iaload (a := 93) (i := y.1) gd_M_deliver_111 hR rfl rfl (show _ < 12 from (by omega)) (show _ = nI u from (hT.par y.1 hy1).trans (congrArg oI hu)) ?_
                  refine gz_iload_n gd_M_deliver_112 rfl rfl ?_
                  refine gz_aload_n gd_M_deliver_113 rfl rfl (gz_isr.r _) ?_
                  refine md_getf gd_M_deliver_114 gf_M_84 hR rfl ?_
                  refine gz_sipush (v := 500) gd_M_deliver_117 (by decide) ?_
                  refine mt_iaload (a := 108) (i := 500) gd_M_deliver_120 hR rfl rfl (show _ < 501 from (by omega)) (show _ = nI y.2.2.2.1 from hLt.2.2.2.1) ?_
                  refine gz_aload_n gd_M_deliver_121 rfl rfl (gz_isr.r _) ?_
                  refine md_getf gd_M_deliver_122 gf_M_87 hR rfl ?_
                  refine gz_sipush (v := 500) gd_M_deliver_125 (by decide) ?_
                  refine mt_iaload (a := 109) (i := 500) gd_M_deliver_128 hR rfl rfl (show _ < 501 from (by omega)) (show _ = nI y.2.2.2.2 from hLt.2.2.2.2) ?_
                  refine gz_virtual4 gd_M_deliver_129 hR.1 rfl rfl gs_M_deliver_129 (Nat.le_of_ble_eq_true rfl) (Nat.le_of_ble_eq_true rfl) ?_
                  refine m_takeChange (T := (y_drop (T.w_code 0) i).p_tk y.1 (T.tk y.1 + 1)) (o := u) (c := y.1) (p := y.2.2.2.1) (v := y.2.2.2.2) hR (hT.s_tk hy1 rfl) hu1 hy1 hy4 hy5 (hI.code.drop.p_tk (by omega)) hP hW (fun S M hR hT => ?_)
                  refine gz_iload_n gd_M_deliver_132 rfl rfl ?_
                  refine gz_ireturn gd_M_deliver_133 rfl rfl ?_
                  simp only [z_deliver, ei, hy, hu, if_pos h63, if_pos h82] at k
                  exact k _ _ hR hT
      ·
        exact absurd h21 (by decide)
  ·
    have ei := inR_none (show T.post.length < 2 ^ 31 by omega) ha
    refine gz_if_eq (tgt := 13) gd_M_deliver_6 (by decide) (fun h6 => ?_) (fun h6 => ?_)
    ·
      refine gz_iconst (v := 1) gd_M_deliver_13 (by decide) ?_
      refine mt_puti (T := T.w_code 1) gd_M_deliver_14 gf_M_100 gr_M_deliver_6_0 hR rfl hT.s_code (fun S M hR hT => ?_)
      refine gz_aload_n gd_M_deliver_17 rfl rfl (gz_isr.r _) ?_
      refine mt_geti gd_M_deliver_18 gf_M_100 hR rfl (show _ = (1 : Int32) from hT.code) ?_
      refine gz_if_le (tgt := 26) gd_M_deliver_21 (by decide) (fun h21 => ?_) (fun h21 => ?_)
      ·
        exact absurd h21 (by decide)
      ·
        refine gz_iconst (v := 0) gd_M_deliver_24 (by decide) ?_
        refine gz_ireturn gd_M_deliver_25 rfl rfl ?_
        simp only [z_deliver, ei] at k
        exact k _ _ hR hT
    ·
      exact absurd h6 (by decide)
