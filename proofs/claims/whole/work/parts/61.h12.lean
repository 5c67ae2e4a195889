/-! The class: version. Printed by wip/whole/h12.py -/
theorem gz_castA {l : Launch} {P : gzP} {D : gzD} {F : gzF} {K : gzK} {pc : Nat} {gl : List (Option Value)} {gst : List Value} {M : gzM} {n nc ns : Nat} {idx k0 kd len : Nat} {f : Nat → Value} {nm : String} {ty : FieldType} (hd : decode F.2.1 pc = .ok (.checkcast idx, 3)) (hk : P.2.2.1[kd]? = some ty) (hnm : ∀ (s : State) (cA : ClassId), va_RA s cA ty → s.vm.findClass nm = some cA) (hlk : Cond.classLink F.1.cls idx nm ∈ P.1) (hM : M k0 = some (.inl (kd, len, f))) (k : GZ l P D F K (pc + 3) gl (.ref k0 :: gst) M n nc ns) (hk0 : kd ≠ 0 := by decide) : GZ l P D F K pc gl (.ref k0 :: gst) M n nc ns :=
  GZ.pure (fun p e R s m args below meth c H locs cells slots Q q ls st hC hl hs hH kk => by
    obtain ⟨a, st1, rfl, ha, hs1⟩ := hs.a
    obtain ⟨a', ha', g, cl, o1, hA, hg, -⟩ := hH.2.2.2 k0 _ hM
    cases ha.symm.trans ha'
    exact va_castE hC.1 hC.2.1 hC.2.2.2.1 (hC.2.2.2.2.2.2.2.1 _ hlk) ⟨cl, o1, by cases hv : cl.vm <;> first | rfl | exact absurd hv (hA.2.2.1 _), by rw [hA.1]; exact hnm s _ ((hC.2.2.2.2.2.2.2.2.2.1.2.1 kd _ hk).2 hk0)⟩ hd (kk ls _ hl ⟨_, _, rfl, ⟨a, ha, rfl⟩, hs1⟩)) rfl k
theorem vref_new {v : gV} {T : CT} {n w : Nat} (h : w ≤ T.vs) : vref (v.pid, ct1 v.vid (T.vs + 1) n, ct1 v.wid (T.vs + 1) (n + 1)) w = vref v w := by
  unfold vref
  rw [show gV.vid (v.pid, ct1 v.vid (T.vs + 1) n, ct1 v.wid (T.vs + 1) (n + 1)) w = v.vid w from ct1_ne (by omega)]
theorem RC.newV {M0 : gzM} {b : Nat} {v : gV} {g : gG} {T : CT} {M : gzM} {n nc ns : Nat} (h : RC M0 b v g T M n nc ns) (hB : Bd T) {p : Nat} {x m : Int32} (hp : p < 40) (ht : T.there p = true) {G : CT} (gthere : G.there = T.there) (ghome : G.home = T.home) (greg : G.reg = T.reg) (ghg : G.hg = T.hg) (gfl : G.fl = T.fl) (gup : G.up = T.up) (gpar : G.par = T.par) (gep : G.ep = T.ep) (gtk : G.tk = T.tk) (gshown : G.shown = T.shown) (gsrc : G.src = T.src) (gow : G.ow = T.ow) (gline : G.line = T.line) (gwt : G.wt = T.wt) (gpost : G.post = T.post) (gvs : G.vs = T.vs + 1) (gla : G.last = ct1 T.last p (T.vs + 1)) (gdr : ∀ i, i < 6 → G.draft i = 0) (gnu : ∀ w, w ≤ T.vs → G.num w = T.num w) (gnu1 : G.num (T.vs + 1) = x) (gma : ∀ w, w ≤ T.vs → G.mark w = T.mark w) (gma1 : G.mark (T.vs + 1) = m) (gvo : ∀ w i, w ≤ T.vs → i < 6 → G.vote w i = T.vote w i) (gvo1 : ∀ i, i < 6 → G.vote (T.vs + 1) i = T.draft i)
    {M6 : gzM} {fv f7 : Nat → Value} (hN : ∀ j, j ≠ n → j ≠ n + 1 → j ≠ v.pid p → j ≠ 3 → j ≠ 7 → M6 j = M j) (hV : M6 n = some (.inr (5, [.int x, .ref (n + 1), .int m]))) (hA : M6 (n + 1) = some (.inl (1, 6, fv))) (hfv : ∀ i, i < 6 → fv i = .int (T.draft i)) (hP : M6 (v.pid p) = some (.inr (4, [.int (T.reg p), .int (nI (T.home p)), .ref n]))) (hH : M6 3 = some (.inr (0, [.ref 4, .ref 5, .ref 6, .ref 7, .ref 8, .ref 9, .ref 10, .int (nI (T.vs + 1)), .int (nI T.hg), .int (nI T.fl)]))) (h7 : M6 7 = some (.inl (1, 6, f7))) (hf7 : ∀ i, i < 6 → f7 i = .int 0) : RC M0 (b + 2) (v.pid, ct1 v.vid (T.vs + 1) n, ct1 v.wid (T.vs + 1) (n + 1)) g G M6 (n + 2) (nc + 2) (ns + 9) := by
  obtain ⟨hF, hD, hE⟩ := h
  have hn := hD.n114
  have hfr := hD.fresh
  have hpg := hD.pgt p hp ht
  have hpo := hD.pobj p hp ht
  have hpn : v.pid p < n := by
    rcases Nat.lt_or_ge (v.pid p) n with z | z
    · exact z
    · rw [hfr _ z] at hpo; cases hpo
  have hFx : ∀ j, 3 ≤ j → j < 83 → j ≠ 3 → j ≠ 7 → M6 j = M j := fun j a1 a2 a3 a4 => hN j (by omega) (by omega) (by omega) a3 a4
  have hlt : ∀ {k e}, M k = some e → k < n := by
    intro k e hk
    rcases Nat.lt_or_ge k n with z | z
    · exact z
    · rw [hfr _ z] at hk; cases hk
  have hK : Keep M M6 := by
    intro j ci fs hci hj
    have hjn := hlt hj
    rw [hN j (by omega) (by omega) (fun e => ?_) (fun e => ?_) (fun e => ?_)]
    · exact hj
    · rw [e, hpo] at hj; cases hj; omega
    · rw [e, hF.house] at hj; cases hj; omega
    · obtain ⟨fd, hd, -⟩ := hF.draft
      rw [e, hd] at hj; cases hj
  have hvr : ∀ {w}, w ≤ T.vs → vref (v.pid, ct1 v.vid (T.vs + 1) n, ct1 v.wid (T.vs + 1) (n + 1)) w = vref v w := fun hw => vref_new hw
  have hme := hE.ofT (T' := G) gow gwt
  refine ⟨⟨?_, ?_, ?_, ?_, ?_, ?_, ?_, fun o ho => ?_, fun o ho => ?_, fun o ho => ?_, fun o ho => ?_, ?_, fun o ho => ?_, fun o ho => ?_⟩, ⟨fun j hj => ?_, ?_, ?_, ?_, hD.ainj, fun i y hy => ?_, fun o i y ho hy => ?_, fun o i y ho hy => ?_, fun w h0 h1 => ?_, fun q hq hqt => ?_, fun q hq hqt => ?_, fun q q2 hq hq2 hqt hqt2 e => ?_, fun k hk => ?_, by omega, fun k hk => ?_, hD.emp⟩, ⟨by have := hme.c; omega, by have := hme.s; omega⟩⟩
  · rw [hH, gvs, ghg, gfl]
  · obtain ⟨f, a1, a2⟩ := hF.precs
    refine ⟨f, (hFx 4 (by omega) (by omega) (by omega) (by omega)).trans a1, fun q hq => (a2 q hq).trans ?_⟩
    unfold pref
    rw [gthere]
    rfl
  · rw [hFx _ (by omega) (by omega) (by omega) (by omega)]; exact hF.offs
  · exact ⟨f7, h7, fun i hi => by rw [gdr i hi]; exact hf7 i hi⟩
  · rw [hFx _ (by omega) (by omega) (by omega) (by omega)]; exact hF.sm
  · rw [hFx _ (by omega) (by omega) (by omega) (by omega)]; exact hF.rs
  · rw [hFx _ (by omega) (by omega) (by omega) (by omega)]; exact hF.st
  · rw [hFx _ (by omega) (by omega) (by omega) (by omega), gpar, gep, gtk, gup]; exact hF.off o ho
  · obtain ⟨f, a1, a2⟩ := hF.shown o ho
    refine ⟨f, (hFx _ (by omega) (by omega) (by omega) (by omega)).trans a1, fun q hq => (a2 q hq).trans ?_⟩
    rw [gshown, hvr (hB.shown o q ho hq)]
  · rw [hFx _ (by omega) (by omega) (by omega) (by omega), gsrc]; exact hF.src o ho
  · rw [hFx _ (by omega) (by omega) (by omega) (by omega), gow]; exact hF.ow o ho
  · rw [hFx _ (by omega) (by omega) (by omega) (by omega), gpost]; exact hF.loP
  · rw [hFx _ (by omega) (by omega) (by omega) (by omega), gline]; exact hF.loL o ho
  · rw [hFx _ (by omega) (by omega) (by omega) (by omega), gwt]; exact hF.loW o ho
  · have h1 := (hD.la j hj).1
    have h2 := hD.aid_n hj
    have h3 := hlt h1
    rw [hN _ (by omega) (by omega) (fun e => by rw [e, hpo] at h1; cases h1) (by omega) (by omega)]
    exact hD.la j hj
  · rw [gpost]; exact hD.capP
  · rw [gline]; exact hD.capL
  · rw [gwt]; exact hD.capW
  · rw [gpost] at hy
    obtain ⟨k, c, e1, e2, e3⟩ := (hD.postE i y hy).keep hK
    exact ⟨k, c, e1, e2, by rw [hvr (hB.post y (List.mem_of_getElem? hy)).2.2.2.2]; exact e3⟩
  · rw [gline] at hy
    obtain ⟨k, e1, e2⟩ := (hD.lineE o i y ho hy).keep hK
    exact ⟨k, e1, by rw [hvr (hB.line o y ho (List.mem_of_getElem? hy)).2]; exact e2⟩
  · rw [gwt] at hy
    obtain ⟨k, e1, e2⟩ := (hD.wtE o i y ho hy).keep hK
    exact ⟨k, e1, by rw [hvr (hB.wt o y ho (List.mem_of_getElem? hy)).2.2]; exact e2⟩
  · rw [gvs] at h1
    by_cases e : w = T.vs + 1
    · subst e
      rw [show gV.vid (v.pid, ct1 v.vid (T.vs + 1) n, ct1 v.wid (T.vs + 1) (n + 1)) (T.vs + 1) = n from ct1_at, show gV.wid (v.pid, ct1 v.vid (T.vs + 1) n, ct1 v.wid (T.vs + 1) (n + 1)) (T.vs + 1) = n + 1 from ct1_at, gnu1, gma1]
      exact ⟨hV, by omega, fv, hA, fun i hi => by rw [gvo1 i hi]; exact hfv i hi⟩
    · have hw : w ≤ T.vs := by omega
      obtain ⟨a1, a2, f, a3, a4⟩ := hD.ver w h0 hw
      have h3 := hlt a3
      rw [show gV.vid (v.pid, ct1 v.vid (T.vs + 1) n, ct1 v.wid (T.vs + 1) (n + 1)) w = v.vid w from ct1_ne e, show gV.wid (v.pid, ct1 v.vid (T.vs + 1) n, ct1 v.wid (T.vs + 1) (n + 1)) w = v.wid w from ct1_ne e, gnu w hw, gma w hw]
      refine ⟨hK _ 5 _ (Or.inr (Or.inr rfl)) a1, a2, f, (hN _ (by omega) (by omega) (fun z => by rw [z, hpo] at a3; cases a3) (by omega) (by omega)).trans a3, fun i hi => by rw [gvo w i hw hi]; exact a4 i hi⟩
  · rw [gthere] at hqt
    show M6 (v.pid q) = _
    rw [greg, ghome, gla]
    by_cases e : q = p
    · subst e
      rw [hP, ct1_at, vref_s (by omega), show gV.vid (v.pid, ct1 v.vid (T.vs + 1) n, ct1 v.wid (T.vs + 1) (n + 1)) (T.vs + 1) = n from ct1_at]
    · have h1 := hD.pobj q hq hqt
      have h2 := hD.pgt q hq hqt
      have h3 := hlt h1
      rw [hN _ (by omega) (by omega) (fun z => e (hD.pinj q p hq hp hqt ht z)) (by omega) (by omega), ct1_ne e, hvr (hB.last q hq)]
      exact h1
  · rw [gthere] at hqt
    exact hD.pgt q hq hqt
  · rw [gthere] at hqt hqt2
    exact hD.pinj q q2 hq hq2 hqt hqt2 e
  · rw [hN k (by omega) (by omega) (by omega) (by omega) (by omega)]
    exact hfr k (by omega)
  · rw [hN k (by omega) (by omega) (by omega) (by omega) (by omega)]
    exact hD.frame k hk
def y_fa (T : CT) (d : Nat) : Nat → Bool
  | 0 => false
  | i + 1 => y_fa T d i || (decide (¬ d = 0) && decide (¬ T.vote d i ≤ T.draft i))
def y_cs (T : CT) (inv : Int32) : Nat → Int32
  | 0 => inv
  | i + 1 => y_cs T inv i + T.draft i
def y_al (T : CT) (inv : Int32) : Nat → Int64
  | 0 => inv.toInt64
  | i + 1 => y_al T inv i + (T.draft i).toInt64
theorem cs_bd {T : CT} {inv : Int32} (h0 : 0 ≤ inv.toInt ∧ inv.toInt ≤ 10000000) (hd : ∀ k, k < 6 → 0 ≤ (T.draft k).toInt ∧ (T.draft k).toInt ≤ 10000000) : ∀ i, i ≤ 6 → 0 ≤ (y_cs T inv i).toInt ∧ (y_cs T inv i).toInt ≤ 10000000 * (i + 1) ∧ y_al T inv i = (y_cs T inv i).toInt64
  | 0, _ => ⟨h0.1, by show inv.toInt ≤ _; omega, rfl⟩
  | i + 1, hi => by
    obtain ⟨a1, a2, a3⟩ := cs_bd h0 hd i (by omega)
    obtain ⟨b1, b2⟩ := hd i (by omega)
    have e : (y_cs T inv i + T.draft i).toInt = (y_cs T inv i).toInt + (T.draft i).toInt := by
      rw [Int32.toInt_add]
      exact Int.bmod_eq_of_le (by omega) (by omega)
    have h6 : (i : Int) ≤ 5 := by omega
    refine ⟨?_, ?_, ?_⟩
    · show 0 ≤ (y_cs T inv i + T.draft i).toInt
      omega
    · show (y_cs T inv i + T.draft i).toInt ≤ _
      omega
    · show y_al T inv i + (T.draft i).toInt64 = (y_cs T inv i + T.draft i).toInt64
      rw [a3]
      apply Int64.toInt_inj.1
      rw [Int64.toInt_add, Int32.toInt_toInt64, Int32.toInt_toInt64, Int32.toInt_toInt64, e]
      exact Int.bmod_eq_of_le (by omega) (by omega)
theorem mk_or2 (f : Bool) : (nI (if f = true then 2 else 0) ||| (2 : Int32)) = nI (if true = true then 2 else 0) := by cases f <;> rfl
theorem al_le {a b : Int32} : (lg_cmp a.toInt64 b.toInt64 ≤ 0) ↔ a ≤ b := by
  rw [lg_cmp_le, Int64.le_iff_toInt_le, Int32.le_iff_toInt_le, Int32.toInt_toInt64, Int32.toInt_toInt64]
theorem h_marks {l : Launch} {D : gzD} {K : gzK} {M : gzM} {n nc ns : Nat} {M0 : gzM} {b : Nat} {v : gV} {g : gG} {T : CT} (hC : RC M0 b v g T M n nc ns) {p : Nat} {inv bal : Int32} (hp : p < 40) (ht : T.there p = true) (hB : Bd T) (hinv : 0 ≤ inv.toInt ∧ inv.toInt ≤ 10000000) (hdr : ∀ k, k < 6 → 0 ≤ (T.draft k).toInt ∧ (T.draft k).toInt ≤ 10000000) (k : K (.inl (some (.int (y_mark (T.reg p) bal (y_fa T (T.last p) 6) (y_al T inv 6))))) M n nc ns) : GZ l P1 D F_H_marksOfDraft K 0 [some (.ref 3), some (.ref (v.pid p)), some (.int inv), some (.int bal), none, none, none, none] [] M n nc ns := by
  have hlp := hB.last p hp
  refine gz_iconst (v := 0) gd_H_marksOfDraft_0 (by decide) ?_
  refine gz_istore gd_H_marksOfDraft_1 (Nat.le_of_ble_eq_true rfl) rfl ?_
  refine gz_iload_n gd_H_marksOfDraft_3 rfl rfl ?_
  refine gz_istore gd_H_marksOfDraft_4 (Nat.le_of_ble_eq_true rfl) rfl ?_
  refine gz_aload_n gd_H_marksOfDraft_6 rfl rfl (gz_isr.r _) ?_
  refine gq_getf (y := vref v (T.last p)) gd_H_marksOfDraft_7 gf_H_103 (hC.2.1.pobj p (by omega) ht) rfl rfl ?_
  refine gz_astore gd_H_marksOfDraft_10 (Nat.le_of_ble_eq_true rfl) rfl (vref_isr _ _) ?_
  refine gz_iconst (v := 0) gd_H_marksOfDraft_12 (by decide) ?_
  refine gz_istore gd_H_marksOfDraft_13 (Nat.le_of_ble_eq_true rfl) (vref_cat _ _) ?_
  have loop : ∀ (j i : Nat), i + j = 6 →  GZ l P1 D F_H_marksOfDraft K 15 [some (.ref 3), some (.ref (v.pid p)), some (.int inv), some (.int bal), some (.int (nI (if (y_fa T (T.last p) i) = true then 2 else 0))), some (.int (y_cs T inv i)), some (vref v (T.last p)), some (.int (nI i))] [] M n nc ns := by
    intro j
    induction j with
    | zero =>
      intro i hi
      refine gz_iload gd_H_marksOfDraft_15 rfl ?_
      refine gz_bipush (v := 6) gd_H_marksOfDraft_17 (by decide) ?_
      refine gz_icmp_ge (tgt := 69) gd_H_marksOfDraft_19 (by decide) (fun h19 => ?_) (fun h19 => ?_)
      ·
        replace h19 := (nI_leI (a := 6) (b := i) (by omega) (by omega)).1 h19
        refine gz_iload_n gd_H_marksOfDraft_69 rfl rfl ?_
        refine gz_aload_n gd_H_marksOfDraft_70 rfl rfl (gz_isr.r _) ?_
        refine gq_getf (y := .int (T.reg p)) gd_H_marksOfDraft_71 gf_H_315 (hC.2.1.pobj p (by omega) ht) rfl rfl ?_
        refine gz_icmp_le (tgt := 83) gd_H_marksOfDraft_74 (by decide) (fun h74 => ?_) (fun h74 => ?_)
        ·
          refine gz_iload gd_H_marksOfDraft_83 rfl ?_
          refine gz_iload_n gd_H_marksOfDraft_85 rfl rfl ?_
          refine gz_icmp_le (tgt := 95) gd_H_marksOfDraft_86 (by decide) (fun h86 => ?_) (fun h86 => ?_)
          ·
            refine gz_iload gd_H_marksOfDraft_95 rfl ?_
            refine gz_ireturn gd_H_marksOfDraft_97 rfl rfl ?_
            have e6 : i = 6 := by omega
            rw [e6] at h86 ⊢
            unfold y_mark at k
            rw [(cs_bd hinv hdr 6 (Nat.le_refl _)).2.2, if_pos h74, if_pos (al_le.2 h86)] at k
            generalize y_fa T (T.last p) 6 = f at k ⊢
            cases f <;> exact k
          ·
            refine gz_iload gd_H_marksOfDraft_89 rfl ?_
            refine gz_iconst (v := 4) gd_H_marksOfDraft_91 (by decide) ?_
            refine gz_ior gd_H_marksOfDraft_92 ?_
            refine gz_istore gd_H_marksOfDraft_93 (Nat.le_of_ble_eq_true rfl) rfl ?_
            refine gz_iload gd_H_marksOfDraft_95 rfl ?_
            refine gz_ireturn gd_H_marksOfDraft_97 rfl rfl ?_
            have e6 : i = 6 := by omega
            rw [e6] at h86 ⊢
            unfold y_mark at k
            rw [(cs_bd hinv hdr 6 (Nat.le_refl _)).2.2, if_pos h74, if_neg (fun z => h86 (al_le.1 z))] at k
            generalize y_fa T (T.last p) 6 = f at k ⊢
            cases f <;> exact k
        ·
          refine gz_iload gd_H_marksOfDraft_77 rfl ?_
          refine gz_iconst (v := 1) gd_H_marksOfDraft_79 (by decide) ?_
          refine gz_ior gd_H_marksOfDraft_80 ?_
          refine gz_istore gd_H_marksOfDraft_81 (Nat.le_of_ble_eq_true rfl) rfl ?_
          refine gz_iload gd_H_marksOfDraft_83 rfl ?_
          refine gz_iload_n gd_H_marksOfDraft_85 rfl rfl ?_
          refine gz_icmp_le (tgt := 95) gd_H_marksOfDraft_86 (by decide) (fun h86 => ?_) (fun h86 => ?_)
          ·
            refine gz_iload gd_H_marksOfDraft_95 rfl ?_
            refine gz_ireturn gd_H_marksOfDraft_97 rfl rfl ?_
            have e6 : i = 6 := by omega
            rw [e6] at h86 ⊢
            unfold y_mark at k
            rw [(cs_bd hinv hdr 6 (Nat.le_refl _)).2.2, if_neg h74, if_pos (al_le.2 h86)] at k
            generalize y_fa T (T.last p) 6 = f at k ⊢
            cases f <;> exact k
          ·
            refine gz_iload gd_H_marksOfDraft_89 rfl ?_
            refine gz_iconst (v := 4) gd_H_marksOfDraft_91 (by decide) ?_
            refine gz_ior gd_H_marksOfDraft_92 ?_
            refine gz_istore gd_H_marksOfDraft_93 (Nat.le_of_ble_eq_true rfl) rfl ?_
            refine gz_iload gd_H_marksOfDraft_95 rfl ?_
            refine gz_ireturn gd_H_marksOfDraft_97 rfl rfl ?_
            have e6 : i = 6 := by omega
            rw [e6] at h86 ⊢
            unfold y_mark at k
            rw [(cs_bd hinv hdr 6 (Nat.le_refl _)).2.2, if_neg h74, if_neg (fun z => h86 (al_le.1 z))] at k
            generalize y_fa T (T.last p) 6 = f at k ⊢
            cases f <;> exact k
      ·
        replace h19 := mt (nI_leI (a := 6) (b := i) (by omega) (by omega)).2 h19
        omega
    | succ j ih =>
      intro i hi
      refine gz_iload gd_H_marksOfDraft_15 rfl ?_
      refine gz_bipush (v := 6) gd_H_marksOfDraft_17 (by decide) ?_
      refine gz_icmp_ge (tgt := 69) gd_H_marksOfDraft_19 (by decide) (fun h19 => ?_) (fun h19 => ?_)
      ·
        replace h19 := (nI_leI (a := 6) (b := i) (by omega) (by omega)).1 h19
        omega
      ·
        replace h19 := mt (nI_leI (a := 6) (b := i) (by omega) (by omega)).2 h19
        refine gz_iload gd_H_marksOfDraft_22 rfl ?_
        refine gz_aload_n gd_H_marksOfDraft_24 rfl rfl (gz_isr.r _) ?_
        refine gq_getf (y := .ref (7)) gd_H_marksOfDraft_25 gf_H_28 hC.1.house rfl rfl ?_
        refine gz_iload gd_H_marksOfDraft_28 rfl ?_
        refine rc_draft (i := i) gd_H_marksOfDraft_30 hC (by omega) ?_
        refine gq_iadd (z := (y_cs T inv i + T.draft i)) gd_H_marksOfDraft_31 rfl ?_
        refine gz_istore gd_H_marksOfDraft_32 (Nat.le_of_ble_eq_true rfl) rfl ?_
        refine gz_aload gd_H_marksOfDraft_34 rfl (vref_isr _ _) ?_
        refine rc_nullV (tgt := 63) gd_H_marksOfDraft_36 (by decide) (fun h36 => ?_) (fun h36 => ?_)
        ·
          try rw [vref_0 h36]
          refine gz_iinc (v := nI (i + 1)) gd_H_marksOfDraft_63 rfl (nI_1 i) (Nat.le_of_ble_eq_true rfl) rfl ?_
          refine gz_goto (tgt := 15) gd_H_marksOfDraft_66 (by decide) ?_
          have e : y_fa T (T.last p) (i + 1) = (y_fa T (T.last p) i) := by simp [y_fa, h36]
          rw [← vref_0 (v := v) h36, ← e]
          exact ih (i + 1) (by omega)
        ·
          try rw [vref_s h36]
          refine gz_aload_n gd_H_marksOfDraft_39 rfl rfl (gz_isr.r _) ?_
          refine gq_getf (y := .ref (7)) gd_H_marksOfDraft_40 gf_H_28 hC.1.house rfl rfl ?_
          refine gz_iload gd_H_marksOfDraft_43 rfl ?_
          refine rc_draft (i := i) gd_H_marksOfDraft_45 hC (by omega) ?_
          refine gz_aload gd_H_marksOfDraft_46 rfl (gz_isr.r _) ?_
          refine gq_getf (y := .ref (v.wid (T.last p))) gd_H_marksOfDraft_48 gf_H_312 (hC.2.1.ver (T.last p) (by omega) hlp).1 rfl rfl ?_
          refine gz_iload gd_H_marksOfDraft_51 rfl ?_
          refine rc_vote (w := T.last p) (i := i) gd_H_marksOfDraft_53 hC (by omega) hlp (by omega) ?_
          refine gz_icmp_ge (tgt := 63) gd_H_marksOfDraft_54 (by decide) (fun h54 => ?_) (fun h54 => ?_)
          ·
            refine gz_iinc (v := nI (i + 1)) gd_H_marksOfDraft_63 rfl (nI_1 i) (Nat.le_of_ble_eq_true rfl) rfl ?_
            refine gz_goto (tgt := 15) gd_H_marksOfDraft_66 (by decide) ?_
            have e : y_fa T (T.last p) (i + 1) = (y_fa T (T.last p) i) := by simp [y_fa, h54]
            rw [← vref_s (v := v) h36, ← e]
            exact ih (i + 1) (by omega)
          ·
            refine gz_iload gd_H_marksOfDraft_57 rfl ?_
            refine gz_iconst (v := 2) gd_H_marksOfDraft_59 (by decide) ?_
            refine gz_ior gd_H_marksOfDraft_60 ?_
            rw [mk_or2]
            refine gz_istore gd_H_marksOfDraft_61 (Nat.le_of_ble_eq_true rfl) rfl ?_
            refine gz_iinc (v := nI (i + 1)) gd_H_marksOfDraft_63 rfl (nI_1 i) (Nat.le_of_ble_eq_true rfl) rfl ?_
            refine gz_goto (tgt := 15) gd_H_marksOfDraft_66 (by decide) ?_
            have e : y_fa T (T.last p) (i + 1) = true := by simp [y_fa, h36, h54]
            have e2 : nI (if true = true then 2 else 0) = nI (if y_fa T (T.last p) (i + 1) = true then 2 else 0) := by rw [e]
            rw [← vref_s (v := v) h36, e2]
            exact ih (i + 1) (by omega)
  exact loop 6 0 (by omega)

