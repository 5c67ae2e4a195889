/-! The class: astray. Printed by wip/whole/h15.py -/
theorem h_strayV {l : Launch} {D : gzD} {K : gzK} {M : gzM} {n nc ns : Nat} {M0 : gzM} {b : Nat} {v : gV} {g : gG} {T : CT} (hC : RC M0 b v g T M n nc ns) (hB : Bd T) (hsrc : ∀ o p j, o < 12 → p < 40 → T.src o p = some j → j = o ∨ T.par j = some o) {o : Nat} (ho : o < 12) (k : K (.inl (some (.int 0))) M n nc ns) : GZ l P1 D F_H_hasStrayVersion K 0 [some (.ref 3), some (.ref (11 + 6 * o)), none, none] [] M n nc ns := by
  refine gz_iconst (v := 0) gd_H_hasStrayVersion_0 (by decide) ?_
  refine gz_istore_n gd_H_hasStrayVersion_1 rfl (Nat.le_of_ble_eq_true rfl) rfl ?_
  have loop : ∀ (j i : Nat), i + j = 40 → ∀ (y3 : Option Value), GZ l P1 D F_H_hasStrayVersion K 2 [some (.ref 3), some (.ref (11 + 6 * o)), some (.int (nI i)), y3] [] M n nc ns := by
    intro j
    induction j with
    | zero =>
      intro i hi y3
      refine gz_iload_n gd_H_hasStrayVersion_2 rfl rfl ?_
      refine gz_bipush (v := 40) gd_H_hasStrayVersion_3 (by decide) ?_
      refine gz_icmp_ge (tgt := 52) gd_H_hasStrayVersion_5 (by decide) (fun h5 => ?_) (fun h5 => ?_)
      ·
        replace h5 := (nI_leI (a := 40) (b := i) (by omega) (by omega)).1 h5
        refine gz_iconst (v := 0) gd_H_hasStrayVersion_52 (by decide) ?_
        refine gz_ireturn gd_H_hasStrayVersion_53 rfl rfl ?_
        exact k
      ·
        replace h5 := mt (nI_leI (a := 40) (b := i) (by omega) (by omega)).2 h5
        omega
    | succ j ih =>
      intro i hi y3
      refine gz_iload_n gd_H_hasStrayVersion_2 rfl rfl ?_
      refine gz_bipush (v := 40) gd_H_hasStrayVersion_3 (by decide) ?_
      refine gz_icmp_ge (tgt := 52) gd_H_hasStrayVersion_5 (by decide) (fun h5 => ?_) (fun h5 => ?_)
      ·
        replace h5 := (nI_leI (a := 40) (b := i) (by omega) (by omega)).1 h5
        omega
      ·
        replace h5 := mt (nI_leI (a := 40) (b := i) (by omega) (by omega)).2 h5
        refine gz_aload_n gd_H_hasStrayVersion_8 rfl rfl (gz_isr.r _) ?_
        refine gq_getf (y := .ref (13 + 6 * o)) gd_H_hasStrayVersion_9 gf_H_179 (hC.1.off o (by omega)) rfl rfl ?_
        refine gz_iload_n gd_H_hasStrayVersion_12 rfl rfl ?_
        refine rc_src (o := o) (p := i) gd_H_hasStrayVersion_13 hC (by omega) (by omega) ?_
        refine gz_istore_n gd_H_hasStrayVersion_14 rfl (Nat.le_of_ble_eq_true rfl) rfl ?_
        refine gz_iload_n gd_H_hasStrayVersion_15 rfl rfl ?_
        refine gz_iconst (v := -1) gd_H_hasStrayVersion_16 (by decide) ?_
        refine gz_icmp_eq (tgt := 46) gd_H_hasStrayVersion_17 (by decide) (fun h17 => ?_) (fun h17 => ?_)
        ·
          replace h17 := (oI_n1 (fun j hj => hB.src o i j ho (by omega) hj)).1 h17
          refine gz_iinc (v := nI (i + 1)) gd_H_hasStrayVersion_46 rfl (nI_1 i) (Nat.le_of_ble_eq_true rfl) rfl ?_
          refine gz_goto (tgt := 2) gd_H_hasStrayVersion_49 (by decide) ?_
          exact ih (i + 1) (by omega) _
        ·
          replace h17 := mt (oI_n1 (fun j hj => hB.src o i j ho (by omega) hj)).2 h17
          refine gz_iload_n gd_H_hasStrayVersion_20 rfl rfl ?_
          refine gz_aload_n gd_H_hasStrayVersion_21 rfl rfl (gz_isr.r _) ?_
          refine gq_getf (y := .int (nI o)) gd_H_hasStrayVersion_22 gf_H_318 (hC.1.off o (by omega)) rfl rfl ?_
          refine gz_icmp_eq (tgt := 46) gd_H_hasStrayVersion_25 (by decide) (fun h25 => ?_) (fun h25 => ?_)
          ·
            replace h25 := (oI_eq (o := o) (fun j hj => hB.src o i j ho (by omega) hj) (by omega)).1 h25
            refine gz_iinc (v := nI (i + 1)) gd_H_hasStrayVersion_46 rfl (nI_1 i) (Nat.le_of_ble_eq_true rfl) rfl ?_
            refine gz_goto (tgt := 2) gd_H_hasStrayVersion_49 (by decide) ?_
            exact ih (i + 1) (by omega) _
          ·
            replace h25 := mt (oI_eq (o := o) (fun j hj => hB.src o i j ho (by omega) hj) (by omega)).2 h25
            obtain ⟨c, hc⟩ := Option.ne_none_iff_exists'.mp h17
            have hc2 := hB.src o i c ho (by omega) hc
            rw [hc, oI_s]
            have hcp : T.par c = some o := (hsrc o i c ho (by omega) hc).elim (fun e => absurd (by rw [hc, e]) h25) id
            refine gz_aload_n gd_H_hasStrayVersion_28 rfl rfl (gz_isr.r _) ?_
            refine gq_getf (y := .ref (5)) gd_H_hasStrayVersion_29 gf_H_17 hC.1.house rfl rfl ?_
            refine gz_iload_n gd_H_hasStrayVersion_32 rfl rfl ?_
            refine rc_offs (o := c) gd_H_hasStrayVersion_33 hC (by omega) ?_
            refine gq_getf (y := .int (oI (T.par c))) gd_H_hasStrayVersion_34 gf_H_138 (hC.1.off c (by omega)) rfl rfl ?_
            refine gz_aload_n gd_H_hasStrayVersion_37 rfl rfl (gz_isr.r _) ?_
            refine gq_getf (y := .int (nI o)) gd_H_hasStrayVersion_38 gf_H_318 (hC.1.off o (by omega)) rfl rfl ?_
            refine gz_icmp_eq (tgt := 46) gd_H_hasStrayVersion_41 (by decide) (fun h41 => ?_) (fun h41 => ?_)
            ·
              replace h41 := (oI_eq (o := o) (fun j hj => hB.par _ _ (by omega) hj) (by omega)).1 h41
              refine gz_iinc (v := nI (i + 1)) gd_H_hasStrayVersion_46 rfl (nI_1 i) (Nat.le_of_ble_eq_true rfl) rfl ?_
              refine gz_goto (tgt := 2) gd_H_hasStrayVersion_49 (by decide) ?_
              exact ih (i + 1) (by omega) _
            ·
              replace h41 := mt (oI_eq (o := o) (fun j hj => hB.par _ _ (by omega) hj) (by omega)).2 h41
              exact absurd hcp h41
  exact loop 40 0 (by omega) none

def y_pt (T : CT) (o g i : Nat) : Nat → Int64
  | 0 => y_sum T o (some o) g i
  | c + 1 => if T.par c = some o then y_pt T o g i c + y_sum T o (some c) g i else y_pt T o g i c
theorem sum_f {T : CT} {o g i : Nat} {th : Option Nat} (h : y_cnt T o th i = false) : y_sum T o th g (i + 1) = y_sum T o th g i := if_neg (by rw [h]; exact Bool.false_ne_true)
theorem sum_t {T : CT} {o g i : Nat} {th : Option Nat} (h : y_cnt T o th i = true) : y_sum T o th g (i + 1) = y_sum T o th g i + (T.vote (T.shown o i) g).toInt64 := if_pos h
theorem cnt_0 {T : CT} {o i : Nat} {th : Option Nat} (h : T.shown o i = 0) : y_cnt T o th i = false := by simp [y_cnt, h]
theorem cnt_s {T : CT} {o i j c : Nat} (h : ¬ T.shown o i = 0) (hs : T.src o i = some j) : y_cnt T o (some c) i = decide (j = c) := by simp [y_cnt, h, hs]
theorem cnt_n {T : CT} {o i : Nat} (h : ¬ T.shown o i = 0) : y_cnt T o none i = true := by simp [y_cnt, h]
theorem pt_0 {T : CT} {o g i : Nat} (h : T.shown o i = 0) : ∀ c, y_pt T o g (i + 1) c = y_pt T o g i c
  | 0 => sum_f (cnt_0 h)
  | c + 1 => by
    simp only [y_pt]
    rw [pt_0 h c, sum_f (cnt_0 h)]
theorem pt_n {T : CT} {o g i j : Nat} (h : ¬ T.shown o i = 0) (hs : T.src o i = some j) (hns : T.par o ≠ some o) : ∀ c, (j = o ∨ (j < c ∧ T.par j = some o) → y_pt T o g (i + 1) c = y_pt T o g i c + (T.vote (T.shown o i) g).toInt64) ∧ (¬ (j = o ∨ (j < c ∧ T.par j = some o)) → y_pt T o g (i + 1) c = y_pt T o g i c)
  | 0 => by
    constructor
    · intro z
      have z : j = o := by omega
      exact sum_t (by rw [cnt_s h hs]; simp [z])
    · intro z
      exact sum_f (by rw [cnt_s h hs]; simp; omega)
  | c + 1 => by
    obtain ⟨i1, i2⟩ := pt_n (g := g) h hs hns c
    simp only [y_pt]
    by_cases hp : T.par c = some o
    · rw [if_pos hp, if_pos hp]
      have hco : c ≠ o := fun e => hns (by rw [e] at hp; exact hp)
      by_cases hj : j = c
      · have hf : ¬ (j = o ∨ (j < c ∧ T.par j = some o)) := by omega
        rw [i2 hf, sum_t (by rw [cnt_s h hs]; simp [hj])]
        constructor
        · intro _
          rw [Int64.add_assoc]
        · intro z
          exact absurd (Or.inr ⟨by omega, by rw [hj]; exact hp⟩) z
      · rw [sum_f (by rw [cnt_s h hs]; simp [hj])]
        constructor
        · intro z
          rw [i1 (z.imp id (fun y => ⟨by omega, y.2⟩)), Int64.add_assoc, Int64.add_comm (T.vote (T.shown o i) g).toInt64, ← Int64.add_assoc]
        · intro z
          rw [i2 (fun y => z (y.imp id (fun y => ⟨by omega, y.2⟩)))]
    · rw [if_neg hp, if_neg hp]
      constructor
      · intro z
        refine i1 ?_
        rcases z with z | ⟨z1, z2⟩
        · exact Or.inl z
        · refine Or.inr ⟨?_, z2⟩
          rcases Nat.lt_or_ge j c with y | y
          · exact y
          · exact absurd (by rw [show c = j by omega]; exact z2) hp
      · intro z
        exact i2 (fun y => z (y.imp id (fun y => ⟨by omega, y.2⟩)))
theorem pt_sum {T : CT} {o g : Nat} (hB : Bd T) (ho : o < 12) (hsrc : ∀ p j, p < 40 → T.src o p = some j → j = o ∨ T.par j = some o) (hns : T.par o ≠ some o) : ∀ i, i ≤ 40 → y_pt T o g i 12 = y_sum T o none g i
  | 0, _ => by
    have : ∀ c, y_pt T o g 0 c = 0 := by
      intro c
      induction c with
      | zero => rfl
      | succ c ih =>
        simp only [y_pt]
        rw [ih]
        split
        · rfl
        · rfl
    exact this 12
  | i + 1, hi => by
    have ih := pt_sum (g := g) hB ho hsrc hns i (by omega)
    by_cases h : T.shown o i = 0
    · rw [pt_0 h, sum_f (cnt_0 h), ih]
    · obtain ⟨j, hj⟩ := Option.ne_none_iff_exists'.mp (mt (hB.srcN o i ho (by omega)).2 h)
      have hj2 := hB.src o i j ho (by omega) hj
      have hc := hsrc i j (by omega) hj
      rw [(pt_n h hj hns 12).1 (hc.imp id (fun z => ⟨hj2, z⟩)), sum_t (cnt_n h), ih]
theorem h_strayS {l : Launch} {D : gzD} {K : gzK} {M : gzM} {n nc ns : Nat} {M0 : gzM} {b : Nat} {v : gV} {g : gG} {T : CT} (hC : RC M0 b v g T M n nc ns) (hB : Bd T) (hsrc : ∀ o p j, o < 12 → p < 40 → T.src o p = some j → j = o ∨ T.par j = some o) (hns : ∀ o, o < 12 → T.par o ≠ some o) {o : Nat} (ho : o < 12) (k : K (.inl (some (.int 0))) M n nc ns) : GZ l P1 D F_H_hasStraySum K 0 [some (.ref 3), some (.ref (11 + 6 * o)), none, none, none, none] [] M n nc ns := by
  refine gz_iconst (v := 0) gd_H_hasStraySum_0 (by decide) ?_
  refine gz_istore_n gd_H_hasStraySum_1 rfl (Nat.le_of_ble_eq_true rfl) rfl ?_
  have loop : ∀ (r q : Nat), q + r = 6 → ∀ (y3 y4 y5 : Option Value), GZ l P1 D F_H_hasStraySum K 2 [some (.ref 3), some (.ref (11 + 6 * o)), some (.int (nI q)), y3, y4, y5] [] M n nc ns := by
    intro r
    induction r with
    | zero =>
      intro q hq y3 y4 y5
      refine gz_iload_n gd_H_hasStraySum_2 rfl rfl ?_
      refine gz_bipush (v := 6) gd_H_hasStraySum_3 (by decide) ?_
      refine gz_icmp_ge (tgt := 79) gd_H_hasStraySum_5 (by decide) (fun h5 => ?_) (fun h5 => ?_)
      ·
        replace h5 := (nI_leI (a := 6) (b := q) (by omega) (by omega)).1 h5
        refine gz_iconst (v := 0) gd_H_hasStraySum_79 (by decide) ?_
        refine gz_ireturn gd_H_hasStraySum_80 rfl rfl ?_
        exact k
      ·
        replace h5 := mt (nI_leI (a := 6) (b := q) (by omega) (by omega)).2 h5
        omega
    | succ r ih =>
      intro q hq y3 y4 y5
      refine gz_iload_n gd_H_hasStraySum_2 rfl rfl ?_
      refine gz_bipush (v := 6) gd_H_hasStraySum_3 (by decide) ?_
      refine gz_icmp_ge (tgt := 79) gd_H_hasStraySum_5 (by decide) (fun h5 => ?_) (fun h5 => ?_)
      ·
        replace h5 := (nI_leI (a := 6) (b := q) (by omega) (by omega)).1 h5
        omega
      ·
        replace h5 := mt (nI_leI (a := 6) (b := q) (by omega) (by omega)).2 h5
        refine gz_aload_n gd_H_hasStraySum_8 rfl rfl (gz_isr.r _) ?_
        refine gz_aload_n gd_H_hasStraySum_9 rfl rfl (gz_isr.r _) ?_
        refine gq_getf (y := .int (nI o)) gd_H_hasStraySum_10 gf_H_318 (hC.1.off o (by omega)) rfl rfl ?_
        refine gz_iload_n gd_H_hasStraySum_13 rfl rfl ?_
        refine gz_virtual2 gd_H_hasStraySum_14 (hC.1.off o (by omega)) rfl rfl gs_H_hasStraySum_14 (Nat.le_of_ble_eq_true rfl) (Nat.le_of_ble_eq_true rfl) ?_
        refine h_sthr hC hB ho (by omega) (by omega) ?_
        refine gz_lstore_n gd_H_hasStraySum_17 rfl (Nat.le_of_ble_eq_true rfl) rfl ?_
        refine gz_iconst (v := 0) gd_H_hasStraySum_18 (by decide) ?_
        refine gz_istore gd_H_hasStraySum_19 (Nat.le_of_ble_eq_true rfl) trivial ?_
        have loop2 : ∀ (j i : Nat), i + j = 12 → GZ l P1 D F_H_hasStraySum K 21 [some (.ref 3), some (.ref (11 + 6 * o)), some (.int (nI q)), some (.long (y_pt T o q 40 i)), none, some (.int (nI i))] [] M n nc ns := by
          intro j
          induction j with
          | zero =>
            intro i hi
            refine gz_iload gd_H_hasStraySum_21 rfl ?_
            refine gz_bipush (v := 12) gd_H_hasStraySum_23 (by decide) ?_
            refine gz_icmp_ge (tgt := 61) gd_H_hasStraySum_25 (by decide) (fun h25 => ?_) (fun h25 => ?_)
            ·
              replace h25 := (nI_leI (a := 12) (b := i) (by omega) (by omega)).1 h25
              refine gz_lload_n gd_H_hasStraySum_61 rfl rfl ?_
              refine gz_aload_n gd_H_hasStraySum_62 rfl rfl (gz_isr.r _) ?_
              refine gz_iload_n gd_H_hasStraySum_63 rfl rfl ?_
              refine gz_virtual1 gd_H_hasStraySum_64 (hC.1.off o (by omega)) rfl rfl gs_H_hasStraySum_64 (Nat.le_of_ble_eq_true rfl) (Nat.le_of_ble_eq_true rfl) ?_
              refine h_ssum hC hB ho (by omega) ?_
              rw [show i = 12 by omega, pt_sum hB ho (fun p j hp hj => hsrc o p j ho hp hj) (hns o ho) 40 (Nat.le_refl _)]
              refine gz_lcmp gd_H_hasStraySum_67 ?_
              refine gz_if_eq (tgt := 73) gd_H_hasStraySum_68 (by decide) (fun h68 => ?_) (fun h68 => ?_)
              ·
                refine gz_iinc (v := nI (q + 1)) gd_H_hasStraySum_73 rfl (nI_1 q) (Nat.le_of_ble_eq_true rfl) rfl ?_
                refine gz_goto (tgt := 2) gd_H_hasStraySum_76 (by decide) ?_
                exact ih (q + 1) (by omega) _ _ _
              ·
                exact absurd ((lg_cmp_eq _ _).2 rfl) h68
            ·
              replace h25 := mt (nI_leI (a := 12) (b := i) (by omega) (by omega)).2 h25
              omega
          | succ j ih2 =>
            intro i hi
            refine gz_iload gd_H_hasStraySum_21 rfl ?_
            refine gz_bipush (v := 12) gd_H_hasStraySum_23 (by decide) ?_
            refine gz_icmp_ge (tgt := 61) gd_H_hasStraySum_25 (by decide) (fun h25 => ?_) (fun h25 => ?_)
            ·
              replace h25 := (nI_leI (a := 12) (b := i) (by omega) (by omega)).1 h25
              omega
            ·
              replace h25 := mt (nI_leI (a := 12) (b := i) (by omega) (by omega)).2 h25
              refine gz_aload_n gd_H_hasStraySum_28 rfl rfl (gz_isr.r _) ?_
              refine gq_getf (y := .ref (5)) gd_H_hasStraySum_29 gf_H_17 hC.1.house rfl rfl ?_
              refine gz_iload gd_H_hasStraySum_32 rfl ?_
              refine rc_offs (o := i) gd_H_hasStraySum_34 hC (by omega) ?_
              refine gq_getf (y := .int (oI (T.par i))) gd_H_hasStraySum_35 gf_H_138 (hC.1.off i (by omega)) rfl rfl ?_
              refine gz_aload_n gd_H_hasStraySum_38 rfl rfl (gz_isr.r _) ?_
              refine gq_getf (y := .int (nI o)) gd_H_hasStraySum_39 gf_H_318 (hC.1.off o (by omega)) rfl rfl ?_
              refine gz_icmp_ne (tgt := 55) gd_H_hasStraySum_42 (by decide) (fun h42 => ?_) (fun h42 => ?_)
              ·
                replace h42 := mt (oI_eq (o := o) (fun j hj => hB.par _ _ (by omega) hj) (by omega)).2 h42
                refine gz_iinc (v := nI (i + 1)) gd_H_hasStraySum_55 rfl (nI_1 i) (Nat.le_of_ble_eq_true rfl) trivial ?_
                refine gz_goto (tgt := 21) gd_H_hasStraySum_58 (by decide) ?_
                rw [show y_pt T o q 40 i = y_pt T o q 40 (i + 1) from (if_neg h42).symm]
                exact ih2 (i + 1) (by omega)
              ·
                replace h42 := (oI_eq (o := o) (fun j hj => hB.par _ _ (by omega) hj) (by omega)).1 h42
                refine gz_lload_n gd_H_hasStraySum_45 rfl rfl ?_
                refine gz_aload_n gd_H_hasStraySum_46 rfl rfl (gz_isr.r _) ?_
                refine gz_iload gd_H_hasStraySum_47 rfl ?_
                refine gz_iload_n gd_H_hasStraySum_49 rfl rfl ?_
                refine gz_virtual2 gd_H_hasStraySum_50 (hC.1.off o (by omega)) rfl rfl gs_H_hasStraySum_50 (Nat.le_of_ble_eq_true rfl) (Nat.le_of_ble_eq_true rfl) ?_
                refine h_sthr hC hB ho (by omega) (by omega) ?_
                refine gz_ladd gd_H_hasStraySum_53 ?_
                refine gz_lstore_n gd_H_hasStraySum_54 rfl (Nat.le_of_ble_eq_true rfl) rfl ?_
                refine gz_iinc (v := nI (i + 1)) gd_H_hasStraySum_55 rfl (nI_1 i) (Nat.le_of_ble_eq_true rfl) trivial ?_
                refine gz_goto (tgt := 21) gd_H_hasStraySum_58 (by decide) ?_
                rw [show y_pt T o q 40 i + y_sum T o (some i) q 40 = y_pt T o q 40 (i + 1) from (if_pos h42).symm]
                exact ih2 (i + 1) (by omega)
        exact loop2 12 0 (by omega)
  exact loop 6 0 (by omega) none none none

theorem h_astray {l : Launch} {D : gzD} {K : gzK} {M : gzM} {n nc ns : Nat} {M0 : gzM} {b : Nat} {v : gV} {g : gG} {T : CT} (hC : RC M0 b v g T M n nc ns)(hD : RM D) (hb : b + 1000 ≤ 300000) (hls : l.stackTraces = false) (hB : Bd T) (hsrc : ∀ o p j, o < 12 → p < 40 → T.src o p = some j → j = o ∨ T.par j = some o) (hns : ∀ o, o < 12 → T.par o ≠ some o) (k : ∀ v g M n nc ns, RC M0 (b + 560) v g ((z_astray T).2) M n nc ns → ((z_astray T).2).code = 0 → K (.inl (some (.int (z_astray T).1))) M n nc ns)  : GZ l P1 D F_H_astray K 0 [some (.ref 3), none, none] [] M n nc ns := by
  replace hC := hC.code 0
  refine gz_iconst (v := 0) gd_H_astray_0 (by decide) ?_
  refine gz_istore_n gd_H_astray_1 rfl (Nat.le_of_ble_eq_true rfl) rfl ?_
  refine gz_iconst (v := 0) gd_H_astray_2 (by decide) ?_
  refine gz_istore_n gd_H_astray_3 rfl (Nat.le_of_ble_eq_true rfl) rfl ?_
  have loop : ∀ (j i : Nat), i + j = 12 →  GZ l P1 D F_H_astray K 4 [some (.ref 3), some (.int (nI 0)), some (.int (nI i))] [] M n nc ns := by
    intro j
    induction j with
    | zero =>
      intro i hi
      refine gz_iload_n gd_H_astray_4 rfl rfl ?_
      refine gz_bipush (v := 12) gd_H_astray_5 (by decide) ?_
      refine gz_icmp_ge (tgt := 45) gd_H_astray_7 (by decide) (fun h7 => ?_) (fun h7 => ?_)
      ·
        replace h7 := (nI_leI (a := 12) (b := i) (by omega) (by omega)).1 h7
        refine gz_iload_n gd_H_astray_45 rfl rfl ?_
        refine gz_ireturn gd_H_astray_46 rfl rfl ?_
        exact k _ _ _ _ _ _ (hC.le (by omega)) rfl
      ·
        replace h7 := mt (nI_leI (a := 12) (b := i) (by omega) (by omega)).2 h7
        omega
    | succ j ih =>
      intro i hi
      refine gz_iload_n gd_H_astray_4 rfl rfl ?_
      refine gz_bipush (v := 12) gd_H_astray_5 (by decide) ?_
      refine gz_icmp_ge (tgt := 45) gd_H_astray_7 (by decide) (fun h7 => ?_) (fun h7 => ?_)
      ·
        replace h7 := (nI_leI (a := 12) (b := i) (by omega) (by omega)).1 h7
        omega
      ·
        replace h7 := mt (nI_leI (a := 12) (b := i) (by omega) (by omega)).2 h7
        refine gz_aload_n gd_H_astray_10 rfl rfl (gz_isr.r _) ?_
        refine gz_aload_n gd_H_astray_11 rfl rfl (gz_isr.r _) ?_
        refine gq_getf (y := .ref (5)) gd_H_astray_12 gf_H_17 hC.1.house rfl rfl ?_
        refine gz_iload_n gd_H_astray_15 rfl rfl ?_
        refine rc_offs (o := i) gd_H_astray_16 hC (by omega) ?_
        refine gz_virtual1 gd_H_astray_17 hC.1.house rfl rfl gs_H_astray_17 (Nat.le_of_ble_eq_true rfl) (Nat.le_of_ble_eq_true rfl) ?_
        refine h_strayV (T := T.w_code 0) hC hB.w_code hsrc (by omega) ?_
        refine gz_if_ne (tgt := 36) gd_H_astray_20 (by decide) (fun h20 => ?_) (fun h20 => ?_)
        ·
          exact absurd h20 (by decide)
        ·
          refine gz_aload_n gd_H_astray_23 rfl rfl (gz_isr.r _) ?_
          refine gz_aload_n gd_H_astray_24 rfl rfl (gz_isr.r _) ?_
          refine gq_getf (y := .ref (5)) gd_H_astray_25 gf_H_17 hC.1.house rfl rfl ?_
          refine gz_iload_n gd_H_astray_28 rfl rfl ?_
          refine rc_offs (o := i) gd_H_astray_29 hC (by omega) ?_
          refine gz_virtual1 gd_H_astray_30 hC.1.house rfl rfl gs_H_astray_30 (Nat.le_of_ble_eq_true rfl) (Nat.le_of_ble_eq_true rfl) ?_
          refine h_strayS (T := T.w_code 0) hC hB.w_code hsrc hns (by omega) ?_
          refine gz_if_eq (tgt := 39) gd_H_astray_33 (by decide) (fun h33 => ?_) (fun h33 => ?_)
          ·
            refine gz_iinc (v := nI (i + 1)) gd_H_astray_39 rfl (nI_1 i) (Nat.le_of_ble_eq_true rfl) rfl ?_
            refine gz_goto (tgt := 4) gd_H_astray_42 (by decide) ?_
            exact ih (i + 1) (by omega)
          ·
            exact absurd h33 (by decide)
  exact loop 12 0 (by omega)

