/-! The class: its face, changes. Printed by wip/whole/h7.py -/
theorem rs_skip {T : CT} {o : Nat} : ∀ i, i ≤ T.tk o → y_rs T o i = (T, 0)
  | 0, _ => rfl
  | i + 1, h => by
    have ih := rs_skip (T := T) (o := o) i (by omega)
    simp only [y_rs]
    rw [if_pos (by omega), ih]
theorem send_len {T : CT} {o k : Nat} {x : Nat × Nat} : (y_send T o k x).post.length = T.post.length + bN (decide (T.post.length < 500)) := by
  unfold y_send
  by_cases h : T.post.length < 500
  · rw [if_pos h, decide_eq_true h]
    show (T.post ++ [_]).length = _
    rw [List.length_append]
    rfl
  · rw [if_neg h, decide_eq_false h]
    rfl
theorem rs_fr {T : CT} {o : Nat} (hp : T.post.length ≤ 500) : ∀ i, (y_rs T o i).1.line = T.line ∧ (y_rs T o i).1.tk = T.tk ∧ (y_rs T o i).1.post.length = T.post.length + (y_rs T o i).2 ∧ (y_rs T o i).1.post.length ≤ 500 ∧ (y_rs T o i).1.code = T.code
  | 0 => ⟨rfl, rfl, rfl, hp, rfl⟩
  | i + 1 => by
    have ih := rs_fr (T := T) (o := o) hp i
    simp only [y_rs]
    by_cases c : i < T.tk o
    · rw [if_pos c]; exact ih
    · rw [if_neg c]
      cases e : (T.line o)[i]? with
      | none => exact ih
      | some x =>
        obtain ⟨a1, a2, a3, a4, a5⟩ := ih
        have hl := send_len (T := (y_rs T o i).1) (o := o) (k := i + 1) (x := x)
        refine ⟨y_send_line.trans a1, y_send_tk.trans a2, ?_, ?_, y_send_code.trans a5⟩
        · show (y_send (y_rs T o i).1 o (i + 1) x).post.length = T.post.length + ((y_rs T o i).2 + _)
          rw [hl, a3]; omega
        · show (y_send (y_rs T o i).1 o (i + 1) x).post.length ≤ 500
          rw [hl]
          by_cases h : (y_rs T o i).1.post.length < 500
          · rw [decide_eq_true h]; show _ + 1 ≤ _; omega
          · rw [decide_eq_false h]; exact a4
theorem h_resend {l : Launch} {D : gzD} {K : gzK} {M : gzM} {n nc ns : Nat} {M0 : gzM} {b : Nat} {v : gV} {g : gG} {T : CT} (hC : RC M0 b v g T M n nc ns)(hD : RM D) (hb : b + 1000 ≤ 300000) (hls : l.stackTraces = false) {xo : Int32} (hB : Bd T) (k : ∀ v g M n nc ns, RC M0 (b + 560) v g ((z_resend T xo).2) M n nc ns → ((z_resend T xo).2).code = 0 → K (.inl (some (.int (z_resend T xo).1))) M n nc ns) (kx : ∀ e ci g M n nc ns, RC M0 (b + 560) v g ((z_resend T xo).2) M n nc ns → M e = some (.inr (ci, [])) → (((z_resend T xo).2).code, ci) ∈ ([(1, 8), (2, 10)] : List (Int32 × Nat)) → K (.inr e) M n nc ns) : GZ l P1 D F_H_resend K 0 [some (.ref 3), some (.int xo), none, none, none] [] M n nc ns := by
  replace hC := hC.code 0
  have hpN := hB.postN
  refine gz_iload_n gd_H_resend_0 rfl rfl ?_
  refine gz_static1 gd_H_resend_1 gs_H_resend_1 (Nat.le_of_ble_eq_true rfl) (Nat.le_of_ble_eq_true rfl) ?_
  refine h_reqOffice hC hD (by omega) hls (fun o ho e0 => ?_) (fun eo ex M1 n1 nc1 ns1 hC hx => GT.out rfl ?_)
  ·
    subst e0
    have eo := inR_s ho (show 12 < 2 ^ 31 by decide)
    refine gz_aload_n gd_H_resend_4 rfl rfl (gz_isr.r _) ?_
    refine gq_getf (y := .ref (5)) gd_H_resend_5 gf_H_17 hC.1.house rfl rfl ?_
    refine gz_iload_n gd_H_resend_8 rfl rfl ?_
    refine rc_offs (o := o) gd_H_resend_9 hC (by omega) ?_
    refine gz_astore_n gd_H_resend_10 rfl (Nat.le_of_ble_eq_true rfl) rfl (gz_isr.r _) ?_
    refine gz_aload_n gd_H_resend_11 rfl rfl (gz_isr.r _) ?_
    refine gq_getf (y := .int (oI (T.par o))) gd_H_resend_12 gf_H_138 (hC.1.off o (by omega)) rfl rfl ?_
    refine gz_iconst (v := -1) gd_H_resend_15 (by decide) ?_
    refine gz_icmp_ne (tgt := 29) gd_H_resend_16 (by decide) (fun h16 => ?_) (fun h16 => ?_)
    ·
      replace h16 := mt (oI_n1 (fun j hj => hB.par o j ho hj)).2 h16
      obtain ⟨u, hu⟩ := Option.ne_none_iff_exists'.mp h16
      refine gz_aload_n gd_H_resend_29 rfl rfl (gz_isr.r _) ?_
      refine gq_getf (y := .ref (6)) gd_H_resend_30 gf_H_24 hC.1.house rfl rfl ?_
      obtain ⟨mcx, hLO⟩ := hC.1.loP
      refine gz_virtual0 gd_H_resend_33 hLO rfl rfl gs_H_resend_33 (Nat.le_of_ble_eq_true rfl) (Nat.le_of_ble_eq_true rfl) ?_
      refine rl_sizeP hC ?_
      refine gz_istore_n gd_H_resend_36 rfl (Nat.le_of_ble_eq_true rfl) rfl ?_
      refine gz_aload_n gd_H_resend_37 rfl rfl (gz_isr.r _) ?_
      refine gq_getf (y := .int (nI (T.tk o))) gd_H_resend_38 gf_H_198 (hC.1.off o (by omega)) rfl rfl ?_
      refine gz_iconst (v := 1) gd_H_resend_41 (by decide) ?_
      have htkb := hB.tk o ho
      refine gq_iadd (z := nI (T.tk o + 1)) gd_H_resend_42 (nI_add (T.tk o) 1) ?_
      refine gz_istore gd_H_resend_43 (Nat.le_of_ble_eq_true rfl) rfl ?_
      have hfr := rs_fr (T := T.w_code 0) (o := o) hB.postN
      have hln := hB.lineN o ho
      have loop : ∀ (j i : Nat), i + j = (T.line o).length → T.tk o ≤ i → ∀ g M n nc ns, RC M0 (b + (y_rs (T.w_code 0) o i).2) v g (y_rs (T.w_code 0) o i).1 M n nc ns → GZ l P1 D F_H_resend K 45 [some (.ref 3), some (.int (nI o)), some (.ref (11 + 6 * o)), some (.int (nI T.post.length)), some (.int (nI (i + 1)))] [] M n nc ns := by
        intro j
        induction j with
        | zero =>
          intro i hi htk g M n nc ns hC
          obtain ⟨f1, f2, f3, f4, f5⟩ := hfr i
          replace f3 : (y_rs (T.w_code 0) o i).1.post.length = T.post.length + (y_rs (T.w_code 0) o i).2 := f3
          have hll : ((y_rs (T.w_code 0) o i).1.line o).length = (T.line o).length := by rw [f1]; rfl
          refine gz_iload gd_H_resend_45 rfl ?_
          refine gz_aload_n gd_H_resend_47 rfl rfl (gz_isr.r _) ?_
          refine gq_getf (y := .ref (15 + 6 * o)) gd_H_resend_48 gf_H_236 (hC.1.off o (by omega)) rfl rfl ?_
          obtain ⟨mcx, hLO⟩ := hC.1.loL o (by omega)
          refine gz_virtual0 gd_H_resend_51 hLO rfl rfl gs_H_resend_51 (Nat.le_of_ble_eq_true rfl) (Nat.le_of_ble_eq_true rfl) ?_
          refine rl_sizeL hC ho ?_
          rw [hll]
          refine gz_icmp_gt (tgt := 84) gd_H_resend_54 (by decide) (fun h54 => ?_) (fun h54 => ?_)
          ·
            replace h54 := (nI_ltI (a := (T.line o).length) (b := i + 1) (by omega) (by omega)).1 h54
            refine gz_aload_n gd_H_resend_84 rfl rfl (gz_isr.r _) ?_
            refine gq_getf (y := .ref (6)) gd_H_resend_85 gf_H_24 hC.1.house rfl rfl ?_
            obtain ⟨mcx, hLO⟩ := hC.1.loP
            refine gz_virtual0 gd_H_resend_88 hLO rfl rfl gs_H_resend_88 (Nat.le_of_ble_eq_true rfl) (Nat.le_of_ble_eq_true rfl) ?_
            refine rl_sizeP hC ?_
            rw [f3]
            refine gz_iload_n gd_H_resend_91 rfl rfl ?_
            refine gq_isub (z := nI (T.post.length + (y_rs (T.w_code 0) o i).2 - T.post.length)) gd_H_resend_92 (pk_sub (by omega)) ?_
            refine gz_ireturn gd_H_resend_93 rfl rfl ?_
            have ei : i = (T.line o).length := by omega
            rw [show T.post.length + (y_rs (T.w_code 0) o i).2 - T.post.length = (y_rs (T.w_code 0) o i).2 by omega]
            rw [ei] at hC f5 f3 f4 ⊢
            simp only [z_resend, eo, hu] at k
            have hpz : (T.w_code 0).post.length = T.post.length := rfl
            exact k _ _ _ _ _ _ (hC.le (by omega)) f5
          ·
            replace h54 := mt (nI_ltI (a := (T.line o).length) (b := i + 1) (by omega) (by omega)).2 h54
            omega
        | succ j ih =>
          intro i hi htk g M n nc ns hC
          obtain ⟨f1, f2, f3, f4, f5⟩ := hfr i
          replace f3 : (y_rs (T.w_code 0) o i).1.post.length = T.post.length + (y_rs (T.w_code 0) o i).2 := f3
          have hll : ((y_rs (T.w_code 0) o i).1.line o).length = (T.line o).length := by rw [f1]; rfl
          obtain ⟨x, hx⟩ : ∃ x, (T.line o)[i]? = some x := ⟨_, List.getElem?_eq_getElem (by omega)⟩
          refine gz_iload gd_H_resend_45 rfl ?_
          refine gz_aload_n gd_H_resend_47 rfl rfl (gz_isr.r _) ?_
          refine gq_getf (y := .ref (15 + 6 * o)) gd_H_resend_48 gf_H_236 (hC.1.off o (by omega)) rfl rfl ?_
          obtain ⟨mcx, hLO⟩ := hC.1.loL o (by omega)
          refine gz_virtual0 gd_H_resend_51 hLO rfl rfl gs_H_resend_51 (Nat.le_of_ble_eq_true rfl) (Nat.le_of_ble_eq_true rfl) ?_
          refine rl_sizeL hC ho ?_
          rw [hll]
          refine gz_icmp_gt (tgt := 84) gd_H_resend_54 (by decide) (fun h54 => ?_) (fun h54 => ?_)
          ·
            replace h54 := (nI_ltI (a := (T.line o).length) (b := i + 1) (by omega) (by omega)).1 h54
            omega
          ·
            replace h54 := mt (nI_ltI (a := (T.line o).length) (b := i + 1) (by omega) (by omega)).2 h54
            refine gz_aload_n gd_H_resend_57 rfl rfl (gz_isr.r _) ?_
            refine gz_aload_n gd_H_resend_58 rfl rfl (gz_isr.r _) ?_
            refine gz_iload gd_H_resend_59 rfl ?_
            refine gz_aload_n gd_H_resend_61 rfl rfl (gz_isr.r _) ?_
            refine gq_getf (y := .ref (15 + 6 * o)) gd_H_resend_62 gf_H_236 (hC.1.off o (by omega)) rfl rfl ?_
            refine gz_iload gd_H_resend_65 rfl ?_
            refine gz_iconst (v := 1) gd_H_resend_67 (by decide) ?_
            refine gq_isub (z := nI i) gd_H_resend_68 (nI_pred i) ?_
            obtain ⟨mcx, hLO⟩ := hC.1.loL o (by omega)
            refine gz_virtual1 gd_H_resend_69 hLO rfl rfl gs_H_resend_69 (Nat.le_of_ble_eq_true rfl) (Nat.le_of_ble_eq_true rfl) ?_
            refine rl_getL (i := i) (y := x) hC ho (by rw [f1]; exact hx) (fun kk hkk => ?_)
            refine gz_cast gd_H_resend_72 (ci := 1) rfl gw_426 hkk ?_
            refine gz_virtual3 gd_H_resend_75 hC.1.house rfl rfl gs_H_resend_75 (Nat.le_of_ble_eq_true rfl) (Nat.le_of_ble_eq_true rfl) ?_
            refine h_send hC hD (by omega) ho hkk (fun g M n1 nc1 ns1 hC => ?_)
            refine gz_iinc (v := nI (i + 1 + 1)) gd_H_resend_78 rfl (nI_1 (i + 1)) (Nat.le_of_ble_eq_true rfl) rfl ?_
            refine gz_goto (tgt := 45) gd_H_resend_81 (by decide) ?_
            have e : y_rs (T.w_code 0) o (i + 1) = (y_send (y_rs (T.w_code 0) o i).1 o (i + 1) x, (y_rs (T.w_code 0) o i).2 + bN (decide ((y_rs (T.w_code 0) o i).1.post.length < 500))) := by
              simp only [y_rs]
              rw [if_neg (show ¬ i < (T.w_code 0).tk o from Nat.not_lt.2 htk), show ((T.w_code 0).line o)[i]? = some x from hx]
            exact ih (i + 1) (by omega) (by omega) _ _ _ _ _ (by rw [e]; rw [Nat.add_assoc] at hC; exact hC)
      by_cases hle : T.tk o ≤ (T.line o).length
      · exact loop ((T.line o).length - T.tk o) (T.tk o) (by omega) (Nat.le_refl _) _ _ _ _ _ (by rw [rs_skip (T := T.w_code 0) (T.tk o) (Nat.le_refl _)]; exact hC)
      · have hsk := rs_skip (T := T.w_code 0) (o := o) (T.line o).length (by show (T.line o).length ≤ T.tk o; omega)
        have htk0 := hB.tk o ho
        refine gz_iload gd_H_resend_45 rfl ?_
        refine gz_aload_n gd_H_resend_47 rfl rfl (gz_isr.r _) ?_
        refine gq_getf (y := .ref (15 + 6 * o)) gd_H_resend_48 gf_H_236 (hC.1.off o (by omega)) rfl rfl ?_
        obtain ⟨mcx, hLO⟩ := hC.1.loL o (by omega)
        refine gz_virtual0 gd_H_resend_51 hLO rfl rfl gs_H_resend_51 (Nat.le_of_ble_eq_true rfl) (Nat.le_of_ble_eq_true rfl) ?_
        refine rl_sizeL (T := T.w_code 0) hC ho ?_
        refine gz_icmp_gt (tgt := 84) gd_H_resend_54 (by decide) (fun h54 => ?_) (fun h54 => ?_)
        ·
          replace h54 := (nI_ltI (a := (T.line o).length) (b := T.tk o + 1) (by omega) (by omega)).1 h54
          refine gz_aload_n gd_H_resend_84 rfl rfl (gz_isr.r _) ?_
          refine gq_getf (y := .ref (6)) gd_H_resend_85 gf_H_24 hC.1.house rfl rfl ?_
          obtain ⟨mcx, hLO⟩ := hC.1.loP
          refine gz_virtual0 gd_H_resend_88 hLO rfl rfl gs_H_resend_88 (Nat.le_of_ble_eq_true rfl) (Nat.le_of_ble_eq_true rfl) ?_
          refine rl_sizeP hC ?_
          refine gz_iload_n gd_H_resend_91 rfl rfl ?_
          refine gq_isub (z := nI (T.post.length - T.post.length)) gd_H_resend_92 (pk_sub (by omega)) ?_
          refine gz_ireturn gd_H_resend_93 rfl rfl ?_
          simp only [z_resend, eo, hu] at k
          rw [hsk] at k
          rw [show T.post.length - T.post.length = 0 by omega]
          exact k _ _ _ _ _ _ (hC.le (by omega)) rfl
        ·
          replace h54 := mt (nI_ltI (a := (T.line o).length) (b := T.tk o + 1) (by omega) (by omega)).2 h54
          omega
    ·
      replace h16 := (oI_n1 (fun j hj => hB.par o j ho hj)).1 h16
      have hrx := hC.room hD (by omega)
      refine gz_throw hls gt_H_resend_19 gd_H_resend_19 gd_H_resend_22 gd_H_resend_23 gd_H_resend_25 gd_H_resend_28 rfl (Nat.le_of_ble_eq_true rfl) (Nat.le_of_ble_eq_true rfl) (by omega) (by omega) ?_
      simp only [z_resend, eo, h16] at kx
      exact kx _ _ _ _ _ _ _ ((((hC.alloc (fun j hj => gz_up_n hj) (by decide)).1).le (by omega)).recode 2) gz_up_s (by show ((2 : Int32), _) ∈ _; decide)
  ·
    simp only [z_resend, eo] at kx
    exact kx _ _ _ _ _ _ _ ((hC.le (by omega)).recode 1) hx (by show ((1 : Int32), _) ∈ _; decide)

theorem y_set_shown {T : CT} {o p w : Nat} {s : Option Nat} : (y_set T o p w s).shown = ct2 T.shown o p w := by
  unfold y_set
  split
  · exact y_tell_shown.trans rfl
  · rfl
theorem y_set_src {T : CT} {o p w : Nat} {s : Option Nat} : (y_set T o p w s).src = ct2 T.src o p s := by
  unfold y_set
  split
  · exact y_tell_src.trans rfl
  · rfl
theorem y_own_shown {T : CT} {o p x y : Nat} (h : ¬ (x = o ∧ y = p)) : (y_own T o p).shown x y = T.shown x y := by
  unfold y_own
  split
  · rw [y_set_shown]
    exact if_neg h
  · rfl
theorem y_own_ow2 {T : CT} {o p x y : Nat} (h : ¬ (x = o ∧ y = p)) : (y_own T o p).ow x y = T.ow x y := by
  rw [y_own_ow]
  exact if_neg h
theorem rv_fr {T : CT} {o : Nat} : ∀ i, (∀ p, i ≤ p → (y_rv T o i).1.shown o p = T.shown o p ∧ (y_rv T o i).1.ow o p = T.ow o p) ∧ (y_rv T o i).1.there = T.there ∧ (y_rv T o i).1.home = T.home ∧ (y_rv T o i).1.last = T.last ∧ (y_rv T o i).1.code = T.code
  | 0 => ⟨fun p _ => ⟨rfl, rfl⟩, rfl, rfl, rfl, rfl⟩
  | i + 1 => by
    obtain ⟨a1, a2, a3, a4, a5⟩ := rv_fr (T := T) (o := o) i
    have hn : (∀ p, i + 1 ≤ p → (y_rv T o i).1.shown o p = T.shown o p ∧ (y_rv T o i).1.ow o p = T.ow o p) := fun p hp => a1 p (by omega)
    simp only [y_rv]
    split
    · split
      · split
        · exact ⟨hn, a2, a3, a4, a5⟩
        · refine ⟨fun p hp => ⟨?_, ?_⟩, y_own_there.trans a2, y_own_home.trans a3, y_own_last.trans a4, y_own_code.trans a5⟩
          · exact (y_own_shown (by omega)).trans (hn p hp).1
          · exact (y_own_ow2 (by omega)).trans (hn p hp).2
      · exact ⟨hn, a2, a3, a4, a5⟩
    · exact ⟨hn, a2, a3, a4, a5⟩
theorem h_revive {l : Launch} {D : gzD} {K : gzK} {M : gzM} {n nc ns : Nat} {M0 : gzM} {b : Nat} {v : gV} {g : gG} {T : CT} (hC : RC M0 b v g T M n nc ns)(hD : RM D) (hb : b + 1000 ≤ 300000) (hls : l.stackTraces = false) {xo : Int32} (hI : JI T) (hP : pot T + 40 ≤ 9000) (hdn : ∀ o, o < 12 → T.up o = false → ∀ p, p < 40 → T.shown o p = 0 ∧ T.ow o p = false) (k : ∀ v g M n nc ns, RC M0 (b + 560) v g ((z_revive T xo).2) M n nc ns → ((z_revive T xo).2).code = 0 → K (.inl (some (.int (z_revive T xo).1))) M n nc ns) (kx : ∀ e ci g M n nc ns, RC M0 (b + 560) v g ((z_revive T xo).2) M n nc ns → M e = some (.inr (ci, [])) → (((z_revive T xo).2).code, ci) ∈ ([(1, 8), (2, 10)] : List (Int32 × Nat)) → K (.inr e) M n nc ns) : GZ l P1 D F_H_revive K 0 [some (.ref 3), some (.int xo), none, none, none, none] [] M n nc ns := by
  replace hC := hC.code 0
  refine gz_iload_n gd_H_revive_0 rfl rfl ?_
  refine gz_static1 gd_H_revive_1 gs_H_revive_1 (Nat.le_of_ble_eq_true rfl) (Nat.le_of_ble_eq_true rfl) ?_
  refine h_reqOffice hC hD (by omega) hls (fun o ho e0 => ?_) (fun eo ex M1 n1 nc1 ns1 hC hx => GT.out rfl ?_)
  ·
    subst e0
    have eo := inR_s ho (show 12 < 2 ^ 31 by decide)
    refine gz_aload_n gd_H_revive_4 rfl rfl (gz_isr.r _) ?_
    refine gq_getf (y := .ref (5)) gd_H_revive_5 gf_H_17 hC.1.house rfl rfl ?_
    refine gz_iload_n gd_H_revive_8 rfl rfl ?_
    refine rc_offs (o := o) gd_H_revive_9 hC (by omega) ?_
    refine gz_astore_n gd_H_revive_10 rfl (Nat.le_of_ble_eq_true rfl) rfl (gz_isr.r _) ?_
    refine gz_aload_n gd_H_revive_11 rfl rfl (gz_isr.r _) ?_
    refine gq_getf (y := .int (bI (T.up o))) gd_H_revive_12 gf_H_119 (hC.1.off o (by omega)) rfl rfl ?_
    refine gz_if_eq (tgt := 28) gd_H_revive_15 (by decide) (fun h15 => ?_) (fun h15 => ?_)
    ·
      replace h15 := bI_0.1 h15
      refine gz_aload_n gd_H_revive_28 rfl rfl (gz_isr.r _) ?_
      refine gz_iconst (v := 1) gd_H_revive_29 (by decide) ?_
      refine rp_up1 gd_H_revive_30 gf_H_119 gr_H_revive_3_9 hC (by omega) (fun M hC => ?_)
      refine gz_iconst (v := 0) gd_H_revive_33 (by decide) ?_
      refine gz_istore_n gd_H_revive_34 rfl (Nat.le_of_ble_eq_true rfl) rfl ?_
      refine gz_iconst (v := 0) gd_H_revive_35 (by decide) ?_
      refine gz_istore gd_H_revive_36 (Nat.le_of_ble_eq_true rfl) rfl ?_
      replace hC : RC M0 b v g ((T.w_code 0).p_up o true) M n nc ns := hC
      have hJ : JI ((T.w_code 0).p_up o true) := (JI.code (v := 0) hI).p_up
      have hPp : pot ((T.w_code 0).p_up o true) + 40 ≤ 9000 := hP
      have loop : ∀ (j i : Nat), i + j = 40 → ∀ (y5 : Option Value) g M n nc ns, RC M0 (b + 2 * i) v g (y_rv ((T.w_code 0).p_up o true) o i).1 M n nc ns → GZ l P1 D F_H_revive K 38 [some (.ref 3), some (.int (nI o)), some (.ref (11 + 6 * o)), some (.int (nI (y_rv ((T.w_code 0).p_up o true) o i).2)), some (.int (nI i)), y5] [] M n nc ns := by
        intro j
        induction j with
        | zero =>
          intro i hi y5 g M n nc ns hC
          obtain ⟨f1, f2, f3, f4, f5⟩ := rv_fr (T := ((T.w_code 0).p_up o true)) (o := o) i
          obtain ⟨hG, hGp⟩ := rv_J hJ ho hPp i (by omega)
          refine gz_iload gd_H_revive_38 rfl ?_
          refine gz_bipush (v := 40) gd_H_revive_40 (by decide) ?_
          refine gz_icmp_ge (tgt := 98) gd_H_revive_42 (by decide) (fun h42 => ?_) (fun h42 => ?_)
          ·
            replace h42 := (nI_leI (a := 40) (b := i) (by omega) (by omega)).1 h42
            refine gz_iload_n gd_H_revive_98 rfl rfl ?_
            refine gz_ireturn gd_H_revive_99 rfl rfl ?_
            have ei : i = 40 := by omega
            rw [ei] at hC f5 ⊢
            simp only [z_revive, eo, if_neg (bf h15)] at k
            exact k _ _ _ _ _ _ (hC.le (by omega)) f5
          ·
            replace h42 := mt (nI_leI (a := 40) (b := i) (by omega) (by omega)).2 h42
            omega
        | succ j ih =>
          intro i hi y5 g M n nc ns hC
          obtain ⟨f1, f2, f3, f4, f5⟩ := rv_fr (T := ((T.w_code 0).p_up o true)) (o := o) i
          obtain ⟨hG, hGp⟩ := rv_J hJ ho hPp i (by omega)
          refine gz_iload gd_H_revive_38 rfl ?_
          refine gz_bipush (v := 40) gd_H_revive_40 (by decide) ?_
          refine gz_icmp_ge (tgt := 98) gd_H_revive_42 (by decide) (fun h42 => ?_) (fun h42 => ?_)
          ·
            replace h42 := (nI_leI (a := 40) (b := i) (by omega) (by omega)).1 h42
            omega
          ·
            replace h42 := mt (nI_leI (a := 40) (b := i) (by omega) (by omega)).2 h42
            refine gz_aload_n gd_H_revive_45 rfl rfl (gz_isr.r _) ?_
            refine gq_getf (y := .ref (4)) gd_H_revive_46 gf_H_11 hC.1.house rfl rfl ?_
            refine gz_iload gd_H_revive_49 rfl ?_
            refine rc_precs (p := i) gd_H_revive_51 hC (by omega) ?_
            refine gz_astore gd_H_revive_52 (Nat.le_of_ble_eq_true rfl) rfl (pref_isr _ _ _) ?_
            refine gz_aload gd_H_revive_54 rfl (pref_isr _ _ _) ?_
            refine rc_nullP (tgt := 92) gd_H_revive_56 (by decide) (fun h56 => ?_) (fun h56 => ?_)
            ·
              try rw [pref_f h56]
              refine gz_iinc (v := nI (i + 1)) gd_H_revive_92 rfl (nI_1 i) (Nat.le_of_ble_eq_true rfl) rfl ?_
              refine gz_goto (tgt := 38) gd_H_revive_95 (by decide) ?_
              have e : y_rv ((T.w_code 0).p_up o true) o (i + 1) = (y_rv ((T.w_code 0).p_up o true) o i) := by
                simp only [y_rv]
                rw [if_neg (bf h56)]
              rw [← e]
              rw [← e] at hC
              exact ih (i + 1) (by omega) _ _ _ _ _ _ (hC.le (by omega))
            ·
              try rw [pref_t h56]
              refine gz_aload gd_H_revive_59 rfl (gz_isr.r _) ?_
              refine gq_getf (y := .int (nI (((y_rv ((T.w_code 0).p_up o true) o i).1).home i))) gd_H_revive_61 gf_H_167 (hC.2.1.pobj i (by omega) h56) rfl rfl ?_
              refine gz_iload_n gd_H_revive_64 rfl rfl ?_
              refine gz_icmp_ne (tgt := 92) gd_H_revive_65 (by decide) (fun h65 => ?_) (fun h65 => ?_)
              ·
                replace h65 := mt (nI_eq (a := ((y_rv ((T.w_code 0).p_up o true) o i).1).home i) (b := o) (by have := hG.1.home i (by omega); omega) (by have := hG.1.home i (by omega); omega)).2 h65
                refine gz_iinc (v := nI (i + 1)) gd_H_revive_92 rfl (nI_1 i) (Nat.le_of_ble_eq_true rfl) rfl ?_
                refine gz_goto (tgt := 38) gd_H_revive_95 (by decide) ?_
                have e : y_rv ((T.w_code 0).p_up o true) o (i + 1) = (y_rv ((T.w_code 0).p_up o true) o i) := by
                  simp only [y_rv]
                  rw [if_pos h56, if_neg h65]
                rw [← e]
                rw [← e] at hC
                exact ih (i + 1) (by omega) _ _ _ _ _ _ (hC.le (by omega))
              ·
                replace h65 := (nI_eq (a := ((y_rv ((T.w_code 0).p_up o true) o i).1).home i) (b := o) (by have := hG.1.home i (by omega); omega) (by have := hG.1.home i (by omega); omega)).1 h65
                refine gz_aload gd_H_revive_68 rfl (gz_isr.r _) ?_
                refine gq_getf (y := vref v (((y_rv ((T.w_code 0).p_up o true) o i).1).last i)) gd_H_revive_70 gf_H_103 (hC.2.1.pobj i (by omega) h56) rfl rfl ?_
                refine rc_nullV (tgt := 92) gd_H_revive_73 (by decide) (fun h73 => ?_) (fun h73 => ?_)
                ·
                  try rw [vref_0 h73]
                  refine gz_iinc (v := nI (i + 1)) gd_H_revive_92 rfl (nI_1 i) (Nat.le_of_ble_eq_true rfl) rfl ?_
                  refine gz_goto (tgt := 38) gd_H_revive_95 (by decide) ?_
                  have e : y_rv ((T.w_code 0).p_up o true) o (i + 1) = (y_rv ((T.w_code 0).p_up o true) o i) := by
                    simp only [y_rv]
                    rw [if_pos h56, if_pos h65, if_pos h73]
                  rw [← e]
                  rw [← e] at hC
                  exact ih (i + 1) (by omega) _ _ _ _ _ _ (hC.le (by omega))
                ·
                  try rw [vref_s h73]
                  refine gz_aload_n gd_H_revive_76 rfl rfl (gz_isr.r _) ?_
                  refine gz_aload_n gd_H_revive_77 rfl rfl (gz_isr.r _) ?_
                  refine gz_iload gd_H_revive_78 rfl ?_
                  refine gz_aload gd_H_revive_80 rfl (gz_isr.r _) ?_
                  refine gq_getf (y := vref v (((y_rv ((T.w_code 0).p_up o true) o i).1).last i)) gd_H_revive_82 gf_H_103 (hC.2.1.pobj i (by omega) h56) rfl rfl ?_
                  refine gz_iload_n gd_H_revive_85 rfl rfl ?_
                  refine gz_virtual4 gd_H_revive_86 hC.1.house rfl rfl gs_H_revive_86 (gz_slen5 rfl rfl rfl (vref_cat _ _) rfl (Nat.le_of_ble_eq_true rfl)) (Nat.le_of_ble_eq_true rfl) ?_
                  rw [gz_ent5 rfl rfl rfl (vref_cat _ _) rfl]
                  obtain ⟨d1, d2⟩ := hdn o ho h15 i (by omega)
                  have hmay : y_may (y_rv ((T.w_code 0).p_up o true) o i).1 o i o = true := by
                    unfold y_may
                    rw [(f1 i (Nat.le_refl _)).1, show ((T.w_code 0).p_up o true).shown o i = 0 from d1]
                    rfl
                  replace hC := hC.ow_sameF (o := o) (p := i) ((f1 i (Nat.le_refl _)).2.trans d2)
                  refine h_include (T := (y_rv ((T.w_code 0).p_up o true) o i).1.w_ow (ct2 (y_rv ((T.w_code 0).p_up o true) o i).1.ow o i false)) hC hD (by omega) ho (by omega) (hG.1.last i (by omega)) (fun j hj => hG.1.par o j ho hj) (JI.lroom (T := (y_rv ((T.w_code 0).p_up o true) o i).1) (by omega) ho) (fun g1 M3 n1 nc1 ns1 hC => ?_)
                  refine gz_iinc (v := nI ((y_rv ((T.w_code 0).p_up o true) o i).2 + 1)) gd_H_revive_89 rfl (nI_1 ((y_rv ((T.w_code 0).p_up o true) o i).2)) (Nat.le_of_ble_eq_true rfl) rfl ?_
                  refine gz_iinc (v := nI (i + 1)) gd_H_revive_92 rfl (nI_1 i) (Nat.le_of_ble_eq_true rfl) rfl ?_
                  refine gz_goto (tgt := 38) gd_H_revive_95 (by decide) ?_
                  have e : y_rv ((T.w_code 0).p_up o true) o (i + 1) = (y_own (y_rv ((T.w_code 0).p_up o true) o i).1 o i, (y_rv ((T.w_code 0).p_up o true) o i).2 + 1) := by
                    simp only [y_rv]
                    rw [if_pos h56, if_pos h65, if_neg h73, hmay]
                    rfl
                  have e1 : y_own (y_rv ((T.w_code 0).p_up o true) o i).1 o i = y_set ((y_rv ((T.w_code 0).p_up o true) o i).1.w_ow (ct2 (y_rv ((T.w_code 0).p_up o true) o i).1.ow o i false)) o i ((y_rv ((T.w_code 0).p_up o true) o i).1.last i) (some o) := if_pos hmay
                  have hC2 : RC M0 (b + 2 * (i + 1)) v g1 (y_rv ((T.w_code 0).p_up o true) o (i + 1)).1 M3 n1 nc1 ns1 := by
                    rw [e]
                    show RC M0 _ v g1 (y_own (y_rv ((T.w_code 0).p_up o true) o i).1 o i) M3 n1 nc1 ns1
                    rw [e1]
                    exact hC
                  rw [show (y_rv ((T.w_code 0).p_up o true) o i).2 + 1 = (y_rv ((T.w_code 0).p_up o true) o (i + 1)).2 by rw [e]]
                  exact ih (i + 1) (by omega) _ _ _ _ _ _ hC2
      exact loop 40 0 (by omega) none _ _ _ _ _ hC
    ·
      replace h15 := bI_n.1 h15
      have hrx := hC.room hD (by omega)
      refine gz_throw hls gt_H_revive_18 gd_H_revive_18 gd_H_revive_21 gd_H_revive_22 gd_H_revive_24 gd_H_revive_27 rfl (Nat.le_of_ble_eq_true rfl) (Nat.le_of_ble_eq_true rfl) (by omega) (by omega) ?_
      simp only [z_revive, eo, if_pos h15] at kx
      exact kx _ _ _ _ _ _ _ ((((hC.alloc (fun j hj => gz_up_n hj) (by decide)).1).le (by omega)).recode 2) gz_up_s (by show ((2 : Int32), _) ∈ _; decide)
  ·
    simp only [z_revive, eo] at kx
    exact kx _ _ _ _ _ _ _ ((hC.le (by omega)).recode 1) hx (by show ((1 : Int32), _) ∈ _; decide)

