/-! The reference: letters, takeChange. Printed by wip/whole/m5.py -/
theorem le_ix {x : Int32} {n : Nat} (hn : n ≤ 500) (h0 : ¬ x < 0) (h1 : ¬ nI n - 1 < x) : ∃ p, p < n ∧ x = nI p := by
  cases n with
  | zero =>
    obtain ⟨j, hj, rfl⟩ := nI_of h0
    exact absurd (Int32.lt_of_lt_of_le (show nI 0 - 1 < 0 by decide) (nI_pos' hj)) h1
  | succ n =>
    rw [nI_pred] at h1
    exact in_ix (n := n) (by omega) rfl h0 h1
theorem le_out {x : Int32} {n : Nat} (hn : n ≤ 500) (h : x < 0 ∨ nI n - 1 < x) : ∀ p, p < n → x ≠ nI p := by
  intro p hp e
  subst e
  rcases h with h | h
  · exact nI_pos (by omega) h
  · cases n with
    | zero => omega
    | succ n =>
      rw [nI_pred, nI_ltI (by omega) (by omega)] at h
      omega
theorem m_isLetter {l : Launch} {D : gzD} {K : gzK} {M : gzM} {n nc ns : Nat} {M0 : gzM} {S : gS} {L : gL} {T : CT} (hR : RF M0 S L M) (hT : Rel 12 true S T) {x : Int32} (hN : T.post.length ≤ 500) (k1 : ∀ i, i < T.post.length → x = nI i → K (.inl (some (.int 1))) M n nc ns) (k0 : (∀ p, p < T.post.length → x ≠ nI p) → K (.inl (some (.int 0))) M n nc ns) : GZ l P1 D F_M_isLetter K 0 [some (.ref 83), some (.int x)] [] M n nc ns := by
  refine gz_iload_n gd_M_isLetter_0 rfl rfl ?_
  refine gz_iconst (v := 0) gd_M_isLetter_1 (by decide) ?_
  refine gz_aload_n gd_M_isLetter_2 rfl rfl (gz_isr.r _) ?_
  refine mt_geti gd_M_isLetter_3 gf_M_112 hR rfl (show _ = nI T.post.length from (hT.postN rfl)) ?_
  refine gz_iconst (v := 1) gd_M_isLetter_6 (by decide) ?_
  refine gq_isub (z := (nI T.post.length - 1)) gd_M_isLetter_7 rfl ?_
  refine gz_static3 gd_M_isLetter_8 gs_M_isLetter_8 (Nat.le_of_ble_eq_true rfl) (Nat.le_of_ble_eq_true rfl) ?_
  refine m_in (fun ha hb => ?_) (fun ha => ?_)
  ·
    refine gz_ireturn gd_M_isLetter_11 rfl rfl ?_
    obtain ⟨p, hp, e⟩ := le_ix hN ha hb
    exact k1 p hp e
  ·
    refine gz_ireturn gd_M_isLetter_11 rfl rfl ?_
    exact k0 (le_out hN ha)

def cpL (S : gS) (a b : Nat) : gS := gs_set (gs_set (gs_set (gs_set (gs_set S 105 b (S 105 a)) 106 b (S 106 a)) 107 b (S 107 a)) 108 b (S 108 a)) 109 b (S 109 a)
def Lt (S : gS) (i : Nat) (x : Nat × Int32 × Nat × Nat × Nat) : Prop := S 105 i = nI x.1 ∧ S 106 i = x.2.1 ∧ S 107 i = nI x.2.2.1 ∧ S 108 i = nI x.2.2.2.1 ∧ S 109 i = nI x.2.2.2.2
theorem Lt.same {S : gS} {a b : Nat} {x : Nat × Int32 × Nat × Nat × Nat} (h : Lt S a x) : Lt (cpL S a b) b x := by
  simpa [Lt, cpL, gs_set] using h
theorem Lt.other {S : gS} {a b q : Nat} {x : Nat × Int32 × Nat × Nat × Nat} (hq : q ≠ b) (h : Lt S q x) : Lt (cpL S a b) q x := by
  simpa [Lt, cpL, gs_set, hq] using h
theorem Rel.cpL {c : Nat} {S : gS} {T : CT} (h : Rel c false S T) {x y : Nat} : Rel c false (cpL S x y) T := Rel.j_l109 (Rel.j_l108 (Rel.j_l107 (Rel.j_l106 (Rel.j_l105 h))))
theorem m_copyLetter {l : Launch} {D : gzD} {K : gzK} {M : gzM} {n nc ns : Nat} {M0 : gzM} {S : gS} {L : gL} (hR : RF M0 S L M) {x y : Nat} (hx : x < 501) (hy : y < 501) (k : ∀ M, RF M0 (cpL S x y) L M → K (.inl none) M n nc ns) : GZ l P1 D F_M_copyLetter K 0 [some (.ref 83), some (.int (nI x)), some (.int (nI y))] [] M n nc ns := by
  refine gz_aload_n gd_M_copyLetter_0 rfl rfl (gz_isr.r _) ?_
  refine md_getf gd_M_copyLetter_1 gf_M_75 hR rfl ?_
  refine gz_iload_n gd_M_copyLetter_4 rfl rfl ?_
  refine gz_aload_n gd_M_copyLetter_5 rfl rfl (gz_isr.r _) ?_
  refine md_getf gd_M_copyLetter_6 gf_M_75 hR rfl ?_
  refine gz_iload_n gd_M_copyLetter_9 rfl rfl ?_
  refine mt_iaload (a := 105) (i := x) gd_M_copyLetter_10 hR rfl rfl (show _ < 501 from (by omega)) (show _ = S 105 x from rfl) ?_
  refine md_iastore (a := 105) (i := y) gd_M_copyLetter_11 hR rfl rfl rfl (show _ < 501 from (by omega)) (fun M hR => ?_)
  refine gz_aload_n gd_M_copyLetter_12 rfl rfl (gz_isr.r _) ?_
  refine md_getf gd_M_copyLetter_13 gf_M_78 hR rfl ?_
  refine gz_iload_n gd_M_copyLetter_16 rfl rfl ?_
  refine gz_aload_n gd_M_copyLetter_17 rfl rfl (gz_isr.r _) ?_
  refine md_getf gd_M_copyLetter_18 gf_M_78 hR rfl ?_
  refine gz_iload_n gd_M_copyLetter_21 rfl rfl ?_
  refine mt_iaload (a := 106) (i := x) gd_M_copyLetter_22 hR rfl rfl (show _ < 501 from (by omega)) (show _ = S 106 x from rfl) ?_
  refine md_iastore (a := 106) (i := y) gd_M_copyLetter_23 hR rfl rfl rfl (show _ < 501 from (by omega)) (fun M hR => ?_)
  refine gz_aload_n gd_M_copyLetter_24 rfl rfl (gz_isr.r _) ?_
  refine md_getf gd_M_copyLetter_25 gf_M_81 hR rfl ?_
  refine gz_iload_n gd_M_copyLetter_28 rfl rfl ?_
  refine gz_aload_n gd_M_copyLetter_29 rfl rfl (gz_isr.r _) ?_
  refine md_getf gd_M_copyLetter_30 gf_M_81 hR rfl ?_
  refine gz_iload_n gd_M_copyLetter_33 rfl rfl ?_
  refine mt_iaload (a := 107) (i := x) gd_M_copyLetter_34 hR rfl rfl (show _ < 501 from (by omega)) (show _ = S 107 x from rfl) ?_
  refine md_iastore (a := 107) (i := y) gd_M_copyLetter_35 hR rfl rfl rfl (show _ < 501 from (by omega)) (fun M hR => ?_)
  refine gz_aload_n gd_M_copyLetter_36 rfl rfl (gz_isr.r _) ?_
  refine md_getf gd_M_copyLetter_37 gf_M_84 hR rfl ?_
  refine gz_iload_n gd_M_copyLetter_40 rfl rfl ?_
  refine gz_aload_n gd_M_copyLetter_41 rfl rfl (gz_isr.r _) ?_
  refine md_getf gd_M_copyLetter_42 gf_M_84 hR rfl ?_
  refine gz_iload_n gd_M_copyLetter_45 rfl rfl ?_
  refine mt_iaload (a := 108) (i := x) gd_M_copyLetter_46 hR rfl rfl (show _ < 501 from (by omega)) (show _ = S 108 x from rfl) ?_
  refine md_iastore (a := 108) (i := y) gd_M_copyLetter_47 hR rfl rfl rfl (show _ < 501 from (by omega)) (fun M hR => ?_)
  refine gz_aload_n gd_M_copyLetter_48 rfl rfl (gz_isr.r _) ?_
  refine md_getf gd_M_copyLetter_49 gf_M_87 hR rfl ?_
  refine gz_iload_n gd_M_copyLetter_52 rfl rfl ?_
  refine gz_aload_n gd_M_copyLetter_53 rfl rfl (gz_isr.r _) ?_
  refine md_getf gd_M_copyLetter_54 gf_M_87 hR rfl ?_
  refine gz_iload_n gd_M_copyLetter_57 rfl rfl ?_
  refine mt_iaload (a := 109) (i := x) gd_M_copyLetter_58 hR rfl rfl (show _ < 501 from (by omega)) (show _ = S 109 x from rfl) ?_
  refine md_iastore (a := 109) (i := y) gd_M_copyLetter_59 hR rfl rfl rfl (show _ < 501 from (by omega)) (fun M hR => ?_)
  refine gz_return gd_M_copyLetter_60 rfl ?_
  exact k _ hR

theorem m_takeOut {l : Launch} {D : gzD} {K : gzK} {M : gzM} {n nc ns : Nat} {M0 : gzM} {S : gS} {L : gL} {T : CT} (hR : RF M0 S L M) (hT : Rel 12 true S T) {i : Nat} {x : Nat × Int32 × Nat × Nat × Nat} (hN : T.post.length ≤ 500) (hi : i < T.post.length) (hx : T.post[i]? = some x) (k : ∀ S M, RF M0 S L M → Rel 12 true S (T.w_post (T.post.eraseIdx i)) → Lt S 500 x → K (.inl none) M n nc ns) : GZ l P1 D F_M_takeOut K 0 [some (.ref 83), some (.int (nI i)), none] [] M n nc ns := by
  refine gz_aload_n gd_M_takeOut_0 rfl rfl (gz_isr.r _) ?_
  refine gz_iload_n gd_M_takeOut_1 rfl rfl ?_
  refine gz_sipush (v := 500) gd_M_takeOut_2 (by decide) ?_
  refine gz_virtual2 gd_M_takeOut_5 hR.1 rfl rfl gs_M_takeOut_5 (Nat.le_of_ble_eq_true rfl) (Nat.le_of_ble_eq_true rfl) ?_
  refine m_copyLetter (x := i) (y := 500) hR (by omega) (by omega) (fun M hR => ?_)
  refine gz_aload_n gd_M_takeOut_8 rfl rfl (gz_isr.r _) ?_
  refine gz_dup gd_M_takeOut_9 rfl ?_
  refine mt_geti gd_M_takeOut_10 gf_M_112 hR rfl (show _ = nI T.post.length from hT.postN rfl) ?_
  refine gz_iconst (v := 1) gd_M_takeOut_13 (by decide) ?_
  refine gq_isub (z := nI (T.post.length - 1)) gd_M_takeOut_14 (pk_sub (a := T.post.length) (b := 1) (by omega)) ?_
  refine md_putf gd_M_takeOut_15 gf_M_112 gr_M_takeOut_6_23 hR rfl (fun M hR => ?_)
  refine gz_iload_n gd_M_takeOut_18 rfl rfl ?_
  refine gz_istore_n gd_M_takeOut_19 rfl (Nat.le_of_ble_eq_true rfl) rfl ?_
  have hz : (T.post.eraseIdx i).length = T.post.length - 1 := List.length_eraseIdx_of_lt hi
  have loop : ∀ (j q : Nat), i ≤ q → q + j = T.post.length - 1 → ∀ S M, RF M0 S L M → Rel 12 false S T → S 83 23 = nI (T.post.length - 1) → (∀ z y, z < q → (T.post.eraseIdx i)[z]? = some y → Lt S z y) → (∀ z y, q ≤ z → (T.post.eraseIdx i)[z]? = some y → Lt S (z + 1) y) → Lt S 500 x → GZ l P1 D F_M_takeOut K 20 [some (.ref 83), some (.int (nI i)), some (.int (nI q))] [] M n nc ns := by
    intro j
    induction j with
    | zero =>
      intro q hiq hq S M hR hT h23 h1 h2 h5
      refine gz_iload_n gd_M_takeOut_20 rfl rfl ?_
      refine gz_aload_n gd_M_takeOut_21 rfl rfl (gz_isr.r _) ?_
      refine mt_geti gd_M_takeOut_22 gf_M_112 hR rfl h23 ?_
      refine gz_icmp_ge (tgt := 42) gd_M_takeOut_25 (by decide) (fun h25 => ?_) (fun h25 => ?_)
      ·
        replace h25 := (nI_leI (a := T.post.length - 1) (b := q) (by omega) (by omega)).1 h25
        refine gz_return gd_M_takeOut_42 rfl ?_
        exact k _ _ hR (Rel.r_post hT (by rw [hz]; exact h23) (fun z y hz1 hy => h1 z y (by have := (List.getElem?_eq_some_iff.1 hy).1; omega) hy)) h5
      ·
        replace h25 := mt (nI_leI (a := T.post.length - 1) (b := q) (by omega) (by omega)).2 h25
        omega
    | succ j ih =>
      intro q hiq hq S M hR hT h23 h1 h2 h5
      refine gz_iload_n gd_M_takeOut_20 rfl rfl ?_
      refine gz_aload_n gd_M_takeOut_21 rfl rfl (gz_isr.r _) ?_
      refine mt_geti gd_M_takeOut_22 gf_M_112 hR rfl h23 ?_
      refine gz_icmp_ge (tgt := 42) gd_M_takeOut_25 (by decide) (fun h25 => ?_) (fun h25 => ?_)
      ·
        replace h25 := (nI_leI (a := T.post.length - 1) (b := q) (by omega) (by omega)).1 h25
        omega
      ·
        replace h25 := mt (nI_leI (a := T.post.length - 1) (b := q) (by omega) (by omega)).2 h25
        refine gz_aload_n gd_M_takeOut_28 rfl rfl (gz_isr.r _) ?_
        refine gz_iload_n gd_M_takeOut_29 rfl rfl ?_
        refine gz_iconst (v := 1) gd_M_takeOut_30 (by decide) ?_
        refine gq_iadd (z := nI (q + 1)) gd_M_takeOut_31 (nI_add q 1) ?_
        refine gz_iload_n gd_M_takeOut_32 rfl rfl ?_
        refine gz_virtual2 gd_M_takeOut_33 hR.1 rfl rfl gs_M_takeOut_33 (Nat.le_of_ble_eq_true rfl) (Nat.le_of_ble_eq_true rfl) ?_
        refine m_copyLetter (x := q + 1) (y := q) hR (by omega) (by omega) (fun M hR => ?_)
        refine gz_iinc (v := nI (q + 1)) gd_M_takeOut_36 rfl (nI_1 q) (Nat.le_of_ble_eq_true rfl) rfl ?_
        refine gz_goto (tgt := 20) gd_M_takeOut_39 (by decide) ?_
        refine ih (q + 1) (by omega) (by omega) _ _ hR (Rel.cpL hT) h23 (fun z y hz1 hy => ?_) (fun z y hz1 hy => ?_) (Lt.other (by omega) h5)
        · by_cases e : z = q
          · subst e
            exact (h2 z y (Nat.le_refl _) hy).same
          · exact (h1 z y (by omega) hy).other e
        · exact (h2 z y (by omega) hy).other (by omega)
  refine loop (T.post.length - 1 - i) i (Nat.le_refl _) (by omega) _ _ hR (Rel.j_ln (Rel.cpL hT.x_post)) gs_same (fun z y hz1 hy => ?_) (fun z y hz1 hy => ?_) (Lt.same (S := S) (a := i) (b := 500) (hT.post rfl i x (by omega) hx))
  · rw [List.getElem?_eraseIdx_of_lt hz1] at hy
    have := (List.getElem?_eq_some_iff.1 hy).1
    exact Lt.other (S := S) (a := i) (b := 500) (by omega) (hT.post rfl z y (by omega) hy)
  · rw [List.getElem?_eraseIdx_of_ge hz1] at hy
    have := (List.getElem?_eq_some_iff.1 hy).1
    exact Lt.other (S := S) (a := i) (b := 500) (by omega) (hT.post rfl (z + 1) y (by omega) hy)

def y_take (T : CT) (o c p v : Nat) : CT := if v = 0 then y_try (y_unset (T.w_wt (ct1 T.wt c ((T.wt c).filter (fun x => x.1 != p)))) o p c) o else if (T.wt c).length = 0 ∧ y_may T o p c = true then y_set T o p v (some c) else T.w_wt (ct1 T.wt c (T.wt c ++ [(p, v)]))
theorem Rel.wpush {b : Bool} {S : gS} {T : CT} (h : Rel 12 b S T) {c p v : Nat} (hc : c < 12) (hl : (T.wt c).length < 2000) : Rel 12 b (gs_set (gs_set (gs_set S 103 (2000 * c + (T.wt c).length) (nI p)) 104 (2000 * c + (T.wt c).length) (nI v)) 102 c (nI ((T.wt c).length + 1))) (T.w_wt (ct1 T.wt c (T.wt c ++ [(p, v)]))) := by
  refine Rel.r_wt (Rel.j_wtN (Rel.j_wtV (Rel.j_wtP (Rel.x_wt (c := c) h) hl) hl)) (by rw [gs_same]; simp) ?_
  intro i x hi hx
  by_cases e : i < (T.wt c).length
  · rw [List.getElem?_append_left e] at hx
    have := h.wt c i x hc (by omega) hi hx
    simpa [gs_set, Nat.ne_of_lt e] using this
  · have e2 : i = (T.wt c).length := by
      have := (List.getElem?_eq_some_iff.1 hx).1
      simp at this
      omega
    subst e2
    simp at hx
    subst hx
    simp [gs_set]
theorem ff_len {xs : List (Nat × Nat)} {p i : Nat} : ((xs.take i).filter (fun x => x.1 != p)).length ≤ i :=
  Nat.le_trans (List.length_filter_le _ _) (by rw [List.length_take]; omega)
theorem ff_s {xs : List (Nat × Nat)} {p i : Nat} {x : Nat × Nat} (hx : xs[i]? = some x) : (xs.take (i + 1)).filter (fun x => x.1 != p) = (xs.take i).filter (fun x => x.1 != p) ++ (if x.1 = p then [] else [x]) := by
  rw [List.take_succ, hx, List.filter_append]
  by_cases e : x.1 = p <;> simp [e]
theorem JI.filt {T : CT} (h : JI T) {c p : Nat} (hc : c < 12) : JI (T.w_wt (ct1 T.wt c ((T.wt c).filter (fun x => x.1 != p)))) ∧ pot (T.w_wt (ct1 T.wt c ((T.wt c).filter (fun x => x.1 != p)))) ≤ pot T := by
  have h1 := potW_u (T := T) (o := c) (xs := (T.wt c).filter (fun x => x.1 != p)) hc
  have h2 := List.length_filter_le (fun x : Nat × Nat => x.1 != p) (T.wt c)
  have h3 := h.1.wtN c hc
  have e1 : potL (T.w_wt (ct1 T.wt c ((T.wt c).filter (fun x => x.1 != p)))) = potL T := rfl
  have e2 : potO (T.w_wt (ct1 T.wt c ((T.wt c).filter (fun x => x.1 != p)))) = potO T := rfl
  have h4 : pot (T.w_wt (ct1 T.wt c ((T.wt c).filter (fun x => x.1 != p)))) ≤ pot T := by
    unfold pot
    omega
  exact ⟨⟨h.1.w_wt (by omega) (fun y hy => h.1.wt c y hc (List.mem_filter.1 hy).1), Nat.le_trans h4 h.2.1, h.2.2⟩, h4⟩
theorem m_takeChange {l : Launch} {D : gzD} {K : gzK} {M : gzM} {n nc ns : Nat} {M0 : gzM} {S : gS} {L : gL} {T : CT} (hR : RF M0 S L M) (hT : Rel 12 true S T) {o c p v : Nat} (ho : o < 12) (hc : c < 12) (hp : p < 40) (hv : v ≤ T.vs) (hI : JI T) (hP : pot T < 9000) (hW : (T.wt c).length < 2000) (k : ∀ S M, RF M0 S L M → Rel 12 true S (y_take T o c p v) → K (.inl none) M n nc ns) : GZ l P1 D F_M_takeChange K 0 [some (.ref 83), some (.int (nI o)), some (.int (nI c)), some (.int (nI p)), some (.int (nI v)), none, none, none] [] M n nc ns := by
  have hB := hI.1
  replace hv : v ≤ 300 := Nat.le_trans hv hB.vs
  have hL : (T.line o).length < 9000 := by
    have := pot_line (T := T) ho
    unfold pot at hP
    omega
  refine gz_sipush (v := 2000) gd_M_takeChange_0 (by decide) ?_
  refine gz_iload_n gd_M_takeChange_3 rfl rfl ?_
  refine gq_imul (z := nI (2000 * c)) gd_M_takeChange_4 (pk_mul 2000 c) ?_
  refine gz_istore gd_M_takeChange_5 (Nat.le_of_ble_eq_true rfl) rfl ?_
  refine gz_iload gd_M_takeChange_7 rfl ?_
  refine gz_if_le (tgt := 85) gd_M_takeChange_9 (by decide) (fun h9 => ?_) (fun h9 => ?_)
  ·
    replace h9 := (nI_le0 (by omega)).1 h9
    refine gz_iconst (v := 0) gd_M_takeChange_85 (by decide) ?_
    refine gz_istore gd_M_takeChange_86 (Nat.le_of_ble_eq_true rfl) rfl ?_
    refine gz_iload gd_M_takeChange_88 rfl ?_
    refine gz_istore gd_M_takeChange_90 (Nat.le_of_ble_eq_true rfl) rfl ?_
    have loop : ∀ (j i : Nat), i + j = (T.wt c).length → ∀ g, g = ((T.wt c).take i).filter (fun x => x.1 != p) → ∀ S M, RF M0 S L M → Rel c true S T → S 102 c = nI (T.wt c).length → (∀ q y, g[q]? = some y → S 103 (2000 * c + q) = nI y.1 ∧ S 104 (2000 * c + q) = nI y.2) → (∀ q y, i ≤ q → (T.wt c)[q]? = some y → S 103 (2000 * c + q) = nI y.1 ∧ S 104 (2000 * c + q) = nI y.2) → GZ l P1 D F_M_takeChange K 92 [some (.ref 83), some (.int (nI o)), some (.int (nI c)), some (.int (nI p)), some (.int (nI v)), some (.int (nI (2000 * c))), some (.int (nI g.length)), some (.int (nI (2000 * c + i)))] [] M n nc ns := by
      intro j
      induction j with
      | zero =>
        intro i hi g hg S M hR hT hz h1 h2
        have hgl : g.length ≤ i := by rw [hg]; exact ff_len
        refine gz_iload gd_M_takeChange_92 rfl ?_
        refine gz_iload gd_M_takeChange_94 rfl ?_
        refine gz_aload_n gd_M_takeChange_96 rfl rfl (gz_isr.r _) ?_
        refine md_getf gd_M_takeChange_97 gf_M_66 hR rfl ?_
        refine gz_iload_n gd_M_takeChange_100 rfl rfl ?_
        refine mt_iaload (a := 102) (i := c) gd_M_takeChange_101 hR rfl rfl (show _ < 12 from (by omega)) (show _ = nI (T.wt c).length from hz) ?_
        refine gq_iadd (z := nI (2000 * c + (T.wt c).length)) gd_M_takeChange_102 (nI_add (2000 * c) ((T.wt c).length)) ?_
        refine gz_icmp_ge (tgt := 160) gd_M_takeChange_103 (by decide) (fun h103 => ?_) (fun h103 => ?_)
        ·
          replace h103 := (nI_leI (a := 2000 * c + (T.wt c).length) (b := 2000 * c + i) (by omega) (by omega)).1 h103
          refine gz_aload_n gd_M_takeChange_160 rfl rfl (gz_isr.r _) ?_
          refine md_getf gd_M_takeChange_161 gf_M_66 hR rfl ?_
          refine gz_iload_n gd_M_takeChange_164 rfl rfl ?_
          refine gz_iload gd_M_takeChange_165 rfl ?_
          obtain rfl : i = (T.wt c).length := by omega
          rw [List.take_length] at hg
          refine mt_iastore (T := (T.w_wt (ct1 T.wt c ((T.wt c).filter (fun x => x.1 != p))))) (a := 102) (i := c) gd_M_takeChange_167 hR rfl rfl (show _ < 12 from (by omega)) (by rw [← hg]; exact Rel.r_wt (Rel.j_wtN hT) gs_same (fun q y _ hy => h1 q y hy)) (fun S M hR hT => ?_)
          refine gz_aload_n gd_M_takeChange_168 rfl rfl (gz_isr.r _) ?_
          refine gz_iload_n gd_M_takeChange_169 rfl rfl ?_
          refine gz_iload_n gd_M_takeChange_170 rfl rfl ?_
          refine gz_iload_n gd_M_takeChange_171 rfl rfl ?_
          refine gz_virtual3 gd_M_takeChange_172 hR.1 rfl rfl gs_M_takeChange_172 (Nat.le_of_ble_eq_true rfl) (Nat.le_of_ble_eq_true rfl) ?_
          refine m_unset (T := (T.w_wt (ct1 T.wt c ((T.wt c).filter (fun x => x.1 != p))))) (o := o) (p := p) (j := c) hR hT ho hp hc (by have := hB.shown o p ho hp; have := hB.vs; exact (show T.shown o p ≤ 300 by omega)) (hB.srcN o p ho hp) (fun z hz => hB.src o p z ho hp hz) (fun z hz => hB.par o z ho hz) hL hB.postN (fun S M hR hT => ?_)
          refine gz_aload_n gd_M_takeChange_175 rfl rfl (gz_isr.r _) ?_
          refine gz_iload_n gd_M_takeChange_176 rfl rfl ?_
          refine gz_virtual1 gd_M_takeChange_177 hR.1 rfl rfl gs_M_takeChange_177 (Nat.le_of_ble_eq_true rfl) (Nat.le_of_ble_eq_true rfl) ?_
          refine m_tryAll (T := y_unset (T.w_wt (ct1 T.wt c ((T.wt c).filter (fun x => x.1 != p)))) o p c) (o := o) hR hT (by omega) ((hI.filt hc).1.unset ho hp (by have := (hI.filt (p := p) hc).2; omega)) (fun S M hR hT => ?_)
          refine gz_return gd_M_takeChange_180 rfl ?_
          exact k _ _ hR (by unfold y_take; rw [if_pos h9]; exact hT)
        ·
          replace h103 := mt (nI_leI (a := 2000 * c + (T.wt c).length) (b := 2000 * c + i) (by omega) (by omega)).2 h103
          omega
      | succ j ih =>
        intro i hi g hg S M hR hT hz h1 h2
        have hgl : g.length ≤ i := by rw [hg]; exact ff_len
        refine gz_iload gd_M_takeChange_92 rfl ?_
        refine gz_iload gd_M_takeChange_94 rfl ?_
        refine gz_aload_n gd_M_takeChange_96 rfl rfl (gz_isr.r _) ?_
        refine md_getf gd_M_takeChange_97 gf_M_66 hR rfl ?_
        refine gz_iload_n gd_M_takeChange_100 rfl rfl ?_
        refine mt_iaload (a := 102) (i := c) gd_M_takeChange_101 hR rfl rfl (show _ < 12 from (by omega)) (show _ = nI (T.wt c).length from hz) ?_
        refine gq_iadd (z := nI (2000 * c + (T.wt c).length)) gd_M_takeChange_102 (nI_add (2000 * c) ((T.wt c).length)) ?_
        refine gz_icmp_ge (tgt := 160) gd_M_takeChange_103 (by decide) (fun h103 => ?_) (fun h103 => ?_)
        ·
          replace h103 := (nI_leI (a := 2000 * c + (T.wt c).length) (b := 2000 * c + i) (by omega) (by omega)).1 h103
          omega
        ·
          replace h103 := mt (nI_leI (a := 2000 * c + (T.wt c).length) (b := 2000 * c + i) (by omega) (by omega)).2 h103
          obtain ⟨y, hy⟩ : ∃ y, (T.wt c)[i]? = some y := ⟨(T.wt c)[i]'(by omega), List.getElem?_eq_getElem (by omega)⟩
          have hy1 := hB.wt c y hc (List.mem_of_getElem? hy)
          refine gz_aload_n gd_M_takeChange_106 rfl rfl (gz_isr.r _) ?_
          refine md_getf gd_M_takeChange_107 gf_M_69 hR rfl ?_
          refine gz_iload gd_M_takeChange_110 rfl ?_
          refine mt_iaload (a := 103) (i := 2000 * c + i) gd_M_takeChange_112 hR rfl rfl (show _ < 24000 from (by omega)) (h2 i y (Nat.le_refl _) hy).1 ?_
          refine gz_iload_n gd_M_takeChange_113 rfl rfl ?_
          refine gz_icmp_eq (tgt := 154) gd_M_takeChange_114 (by decide) (fun h114 => ?_) (fun h114 => ?_)
          ·
            replace h114 := (nI_eq (a := y.1) (b := p) (by omega) (by omega)).1 h114
            refine gz_iinc (v := nI (2000 * c + i + 1)) gd_M_takeChange_154 rfl (nI_1 (2000 * c + i)) (Nat.le_of_ble_eq_true rfl) rfl ?_
            refine gz_goto (tgt := 92) gd_M_takeChange_157 (by decide) ?_
            exact ih (i + 1) (by omega) g (by rw [hg, ff_s hy, if_pos h114, List.append_nil]) _ _ hR hT hz h1 (fun q z hq hz' => h2 q z (by omega) hz')
          ·
            replace h114 := mt (nI_eq (a := y.1) (b := p) (by omega) (by omega)).2 h114
            refine gz_aload_n gd_M_takeChange_117 rfl rfl (gz_isr.r _) ?_
            refine md_getf gd_M_takeChange_118 gf_M_69 hR rfl ?_
            refine gz_iload gd_M_takeChange_121 rfl ?_
            refine gz_iload gd_M_takeChange_123 rfl ?_
            refine gq_iadd (z := nI (2000 * c + g.length)) gd_M_takeChange_125 (nI_add (2000 * c) g.length) ?_
            refine gz_aload_n gd_M_takeChange_126 rfl rfl (gz_isr.r _) ?_
            refine md_getf gd_M_takeChange_127 gf_M_69 hR rfl ?_
            refine gz_iload gd_M_takeChange_130 rfl ?_
            refine mt_iaload (a := 103) (i := 2000 * c + i) gd_M_takeChange_132 hR rfl rfl (show _ < 24000 from (by omega)) (h2 i y (Nat.le_refl _) hy).1 ?_
            refine md_iastore (a := 103) (i := 2000 * c + g.length) gd_M_takeChange_133 hR rfl rfl rfl (show _ < 24000 from (by omega)) (fun M hR => ?_)
            refine gz_aload_n gd_M_takeChange_134 rfl rfl (gz_isr.r _) ?_
            refine md_getf gd_M_takeChange_135 gf_M_72 hR rfl ?_
            refine gz_iload gd_M_takeChange_138 rfl ?_
            refine gz_iload gd_M_takeChange_140 rfl ?_
            refine gq_iadd (z := nI (2000 * c + g.length)) gd_M_takeChange_142 (nI_add (2000 * c) g.length) ?_
            refine gz_aload_n gd_M_takeChange_143 rfl rfl (gz_isr.r _) ?_
            refine md_getf gd_M_takeChange_144 gf_M_72 hR rfl ?_
            refine gz_iload gd_M_takeChange_147 rfl ?_
            refine mt_iaload (a := 104) (i := 2000 * c + i) gd_M_takeChange_149 hR rfl rfl (show _ < 24000 from (by omega)) (h2 i y (Nat.le_refl _) hy).2 ?_
            refine md_iastore (a := 104) (i := 2000 * c + g.length) gd_M_takeChange_150 hR rfl rfl rfl (show _ < 24000 from (by omega)) (fun M hR => ?_)
            refine gz_iinc (v := nI (g.length + 1)) gd_M_takeChange_151 rfl (nI_1 g.length) (Nat.le_of_ble_eq_true rfl) rfl ?_
            refine gz_iinc (v := nI (2000 * c + i + 1)) gd_M_takeChange_154 rfl (nI_1 (2000 * c + i)) (Nat.le_of_ble_eq_true rfl) rfl ?_
            refine gz_goto (tgt := 92) gd_M_takeChange_157 (by decide) ?_
            have hgl2 : (g ++ [y]).length = g.length + 1 := by simp
            have ih2 := ih (i + 1) (by omega) (g ++ [y]) (by rw [hg, ff_s hy, if_neg h114]) _ _ hR (Rel.j_wtV (Rel.j_wtP hT (by omega)) (by omega)) hz (fun q z hz' => by
              by_cases e : q < g.length
              · rw [List.getElem?_append_left e] at hz'
                have := h1 q z hz'
                simpa [gs_set, Nat.ne_of_lt e] using this
              · have e2 : q = g.length := by
                  have := (List.getElem?_eq_some_iff.1 hz').1
                  rw [hgl2] at this
                  omega
                subst e2
                simp at hz'
                subst hz'
                simp [gs_set]) (fun q z hq hz' => by
              have := h2 q z (by omega) hz'
              have e : ¬ q = g.length := by omega
              simpa [gs_set, e] using this)
            rw [hgl2] at ih2
            exact ih2
    exact loop (T.wt c).length 0 (by omega) [] rfl _ _ hR (Rel.x_wt (c := c) hT) (hT.wtN c hc (by omega)) (fun q y hy => by simp at hy) (fun q y _ hy => hT.wt c q y hc (by omega) (by have := (List.getElem?_eq_some_iff.1 hy).1; omega) hy)
  ·
    replace h9 := mt (nI_le0 (by omega)).2 h9
    refine gz_aload_n gd_M_takeChange_12 rfl rfl (gz_isr.r _) ?_
    refine md_getf gd_M_takeChange_13 gf_M_66 hR rfl ?_
    refine gz_iload_n gd_M_takeChange_16 rfl rfl ?_
    refine mt_iaload (a := 102) (i := c) gd_M_takeChange_17 hR rfl rfl (show _ < 12 from (by omega)) (hT.wtN c (by omega) (by omega)) ?_
    refine gz_if_ne (tgt := 43) gd_M_takeChange_18 (by decide) (fun h18 => ?_) (fun h18 => ?_)
    ·
      replace h18 := mt (nI_z (by omega)).2 h18
      refine gz_aload_n gd_M_takeChange_43 rfl rfl (gz_isr.r _) ?_
      refine md_getf gd_M_takeChange_44 gf_M_69 hR rfl ?_
      refine gz_iload gd_M_takeChange_47 rfl ?_
      refine gz_aload_n gd_M_takeChange_49 rfl rfl (gz_isr.r _) ?_
      refine md_getf gd_M_takeChange_50 gf_M_66 hR rfl ?_
      refine gz_iload_n gd_M_takeChange_53 rfl rfl ?_
      refine mt_iaload (a := 102) (i := c) gd_M_takeChange_54 hR rfl rfl (show _ < 12 from (by omega)) (hT.wtN c (by omega) (by omega)) ?_
      refine gq_iadd (z := nI (2000 * c + (T.wt c).length)) gd_M_takeChange_55 (nI_add (2000 * c) ((T.wt c).length)) ?_
      refine gz_iload_n gd_M_takeChange_56 rfl rfl ?_
      refine md_iastore (a := 103) (i := 2000 * c + (T.wt c).length) gd_M_takeChange_57 hR rfl rfl rfl (show _ < 24000 from (by omega)) (fun M hR => ?_)
      refine gz_aload_n gd_M_takeChange_58 rfl rfl (gz_isr.r _) ?_
      refine md_getf gd_M_takeChange_59 gf_M_72 hR rfl ?_
      refine gz_iload gd_M_takeChange_62 rfl ?_
      refine gz_aload_n gd_M_takeChange_64 rfl rfl (gz_isr.r _) ?_
      refine md_getf gd_M_takeChange_65 gf_M_66 hR rfl ?_
      refine gz_iload_n gd_M_takeChange_68 rfl rfl ?_
      refine mt_iaload (a := 102) (i := c) gd_M_takeChange_69 hR rfl rfl (show _ < 12 from (by omega)) (hT.wtN c (by omega) (by omega)) ?_
      refine gq_iadd (z := nI (2000 * c + (T.wt c).length)) gd_M_takeChange_70 (nI_add (2000 * c) ((T.wt c).length)) ?_
      refine gz_iload gd_M_takeChange_71 rfl ?_
      refine md_iastore (a := 104) (i := 2000 * c + (T.wt c).length) gd_M_takeChange_73 hR rfl rfl rfl (show _ < 24000 from (by omega)) (fun M hR => ?_)
      refine gz_aload_n gd_M_takeChange_74 rfl rfl (gz_isr.r _) ?_
      refine md_getf gd_M_takeChange_75 gf_M_66 hR rfl ?_
      refine gz_iload_n gd_M_takeChange_78 rfl rfl ?_
      refine gz_dup2 gd_M_takeChange_79 rfl rfl ?_
      refine mt_iaload (a := 102) (i := c) gd_M_takeChange_80 hR rfl rfl (show _ < 12 from (by omega)) (hT.wtN c (by omega) (by omega)) ?_
      refine gz_iconst (v := 1) gd_M_takeChange_81 (by decide) ?_
      refine gq_iadd (z := nI ((T.wt c).length + 1)) gd_M_takeChange_82 (nI_add ((T.wt c).length) 1) ?_
      refine mt_iastore (T := T.w_wt (ct1 T.wt c (T.wt c ++ [(p, v)]))) (a := 102) (i := c) gd_M_takeChange_83 hR rfl rfl (show _ < 12 from (by omega)) (hT.wpush hc hW) (fun S M hR hT => ?_)
      refine gz_return gd_M_takeChange_84 rfl ?_
      exact k _ _ hR (by unfold y_take; rw [if_neg h9, if_neg (fun z => h18 z.1)]; exact hT)
    ·
      replace h18 := (nI_z (by omega)).1 h18
      refine gz_aload_n gd_M_takeChange_21 rfl rfl (gz_isr.r _) ?_
      refine gz_iload_n gd_M_takeChange_22 rfl rfl ?_
      refine gz_iload_n gd_M_takeChange_23 rfl rfl ?_
      refine gz_iload_n gd_M_takeChange_24 rfl rfl ?_
      refine gz_virtual3 gd_M_takeChange_25 hR.1 rfl rfl gs_M_takeChange_25 (Nat.le_of_ble_eq_true rfl) (Nat.le_of_ble_eq_true rfl) ?_
      refine m_maySet hR hT (by omega) (by omega) (by omega) (by have := hB.shown o p ho hp; have := hB.vs; omega) (fun z hz => hB.src o p z ho hp hz) ?_
      refine gz_if_eq (tgt := 43) gd_M_takeChange_28 (by decide) (fun h28 => ?_) (fun h28 => ?_)
      ·
        replace h28 := bI_0.1 h28
        refine gz_aload_n gd_M_takeChange_43 rfl rfl (gz_isr.r _) ?_
        refine md_getf gd_M_takeChange_44 gf_M_69 hR rfl ?_
        refine gz_iload gd_M_takeChange_47 rfl ?_
        refine gz_aload_n gd_M_takeChange_49 rfl rfl (gz_isr.r _) ?_
        refine md_getf gd_M_takeChange_50 gf_M_66 hR rfl ?_
        refine gz_iload_n gd_M_takeChange_53 rfl rfl ?_
        refine mt_iaload (a := 102) (i := c) gd_M_takeChange_54 hR rfl rfl (show _ < 12 from (by omega)) (hT.wtN c (by omega) (by omega)) ?_
        refine gq_iadd (z := nI (2000 * c + (T.wt c).length)) gd_M_takeChange_55 (nI_add (2000 * c) ((T.wt c).length)) ?_
        refine gz_iload_n gd_M_takeChange_56 rfl rfl ?_
        refine md_iastore (a := 103) (i := 2000 * c + (T.wt c).length) gd_M_takeChange_57 hR rfl rfl rfl (show _ < 24000 from (by omega)) (fun M hR => ?_)
        refine gz_aload_n gd_M_takeChange_58 rfl rfl (gz_isr.r _) ?_
        refine md_getf gd_M_takeChange_59 gf_M_72 hR rfl ?_
        refine gz_iload gd_M_takeChange_62 rfl ?_
        refine gz_aload_n gd_M_takeChange_64 rfl rfl (gz_isr.r _) ?_
        refine md_getf gd_M_takeChange_65 gf_M_66 hR rfl ?_
        refine gz_iload_n gd_M_takeChange_68 rfl rfl ?_
        refine mt_iaload (a := 102) (i := c) gd_M_takeChange_69 hR rfl rfl (show _ < 12 from (by omega)) (hT.wtN c (by omega) (by omega)) ?_
        refine gq_iadd (z := nI (2000 * c + (T.wt c).length)) gd_M_takeChange_70 (nI_add (2000 * c) ((T.wt c).length)) ?_
        refine gz_iload gd_M_takeChange_71 rfl ?_
        refine md_iastore (a := 104) (i := 2000 * c + (T.wt c).length) gd_M_takeChange_73 hR rfl rfl rfl (show _ < 24000 from (by omega)) (fun M hR => ?_)
        refine gz_aload_n gd_M_takeChange_74 rfl rfl (gz_isr.r _) ?_
        refine md_getf gd_M_takeChange_75 gf_M_66 hR rfl ?_
        refine gz_iload_n gd_M_takeChange_78 rfl rfl ?_
        refine gz_dup2 gd_M_takeChange_79 rfl rfl ?_
        refine mt_iaload (a := 102) (i := c) gd_M_takeChange_80 hR rfl rfl (show _ < 12 from (by omega)) (hT.wtN c (by omega) (by omega)) ?_
        refine gz_iconst (v := 1) gd_M_takeChange_81 (by decide) ?_
        refine gq_iadd (z := nI ((T.wt c).length + 1)) gd_M_takeChange_82 (nI_add ((T.wt c).length) 1) ?_
        refine mt_iastore (T := T.w_wt (ct1 T.wt c (T.wt c ++ [(p, v)]))) (a := 102) (i := c) gd_M_takeChange_83 hR rfl rfl (show _ < 12 from (by omega)) (hT.wpush hc hW) (fun S M hR hT => ?_)
        refine gz_return gd_M_takeChange_84 rfl ?_
        exact k _ _ hR (by unfold y_take; rw [if_neg h9, if_neg (fun z => by rw [h28] at z; cases z.2)]; exact hT)
      ·
        replace h28 := bI_n.1 h28
        refine gz_aload_n gd_M_takeChange_31 rfl rfl (gz_isr.r _) ?_
        refine gz_iload_n gd_M_takeChange_32 rfl rfl ?_
        refine gz_iload_n gd_M_takeChange_33 rfl rfl ?_
        refine gz_iload gd_M_takeChange_34 rfl ?_
        refine gz_iload_n gd_M_takeChange_36 rfl rfl ?_
        refine gz_virtual4 gd_M_takeChange_37 hR.1 rfl rfl gs_M_takeChange_37 (Nat.le_of_ble_eq_true rfl) (Nat.le_of_ble_eq_true rfl) ?_
        refine m_set (T := T) (o := o) (p := p) (v := v) (s := (some c)) hR hT (by omega) (by omega) (by omega) (fun z => absurd z h9) (fun _ => rfl) (fun z hz => hB.par o z ho hz) hL hB.postN (fun S M hR hT => ?_)
        refine gz_goto (tgt := 84) gd_M_takeChange_40 (by decide) ?_
        refine gz_return gd_M_takeChange_84 rfl ?_
        exact k _ _ hR (by unfold y_take; rw [if_neg h9, if_pos ⟨h18, h28⟩]; exact hT)
