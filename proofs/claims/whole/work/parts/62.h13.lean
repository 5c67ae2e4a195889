/-! The class: version. Printed by wip/whole/h13.py -/
theorem pv_f {G : CT} {o i : Nat} {x : Int32} : (G.p_vote o i x).there = G.there ∧ (G.p_vote o i x).home = G.home ∧ (G.p_vote o i x).reg = G.reg ∧ (G.p_vote o i x).last = G.last ∧ (G.p_vote o i x).vs = G.vs ∧ (G.p_vote o i x).num = G.num ∧ (G.p_vote o i x).mark = G.mark ∧ (G.p_vote o i x).draft = G.draft ∧ (G.p_vote o i x).up = G.up ∧ (G.p_vote o i x).par = G.par ∧ (G.p_vote o i x).ep = G.ep ∧ (G.p_vote o i x).shown = G.shown ∧ (G.p_vote o i x).src = G.src ∧ (G.p_vote o i x).ow = G.ow ∧ (G.p_vote o i x).line = G.line ∧ (G.p_vote o i x).tk = G.tk ∧ (G.p_vote o i x).wt = G.wt ∧ (G.p_vote o i x).post = G.post ∧ (G.p_vote o i x).hg = G.hg ∧ (G.p_vote o i x).fl = G.fl ∧ (G.p_vote o i x).code = G.code := ⟨rfl, rfl, rfl, rfl, rfl, rfl, rfl, rfl, rfl, rfl, rfl, rfl, rfl, rfl, rfl, rfl, rfl, rfl, rfl, rfl, rfl⟩
theorem pd_f {G : CT} {i : Nat} {x : Int32} : (G.p_draft i x).there = G.there ∧ (G.p_draft i x).home = G.home ∧ (G.p_draft i x).reg = G.reg ∧ (G.p_draft i x).last = G.last ∧ (G.p_draft i x).vs = G.vs ∧ (G.p_draft i x).num = G.num ∧ (G.p_draft i x).vote = G.vote ∧ (G.p_draft i x).mark = G.mark ∧ (G.p_draft i x).up = G.up ∧ (G.p_draft i x).par = G.par ∧ (G.p_draft i x).ep = G.ep ∧ (G.p_draft i x).shown = G.shown ∧ (G.p_draft i x).src = G.src ∧ (G.p_draft i x).ow = G.ow ∧ (G.p_draft i x).line = G.line ∧ (G.p_draft i x).tk = G.tk ∧ (G.p_draft i x).wt = G.wt ∧ (G.p_draft i x).post = G.post ∧ (G.p_draft i x).hg = G.hg ∧ (G.p_draft i x).fl = G.fl ∧ (G.p_draft i x).code = G.code := ⟨rfl, rfl, rfl, rfl, rfl, rfl, rfl, rfl, rfl, rfl, rfl, rfl, rfl, rfl, rfl, rfl, rfl, rfl, rfl, rfl, rfl⟩
theorem pn_f {G : CT} {w : Nat} {x : Int32} : (G.p_num w x).there = G.there ∧ (G.p_num w x).home = G.home ∧ (G.p_num w x).reg = G.reg ∧ (G.p_num w x).last = G.last ∧ (G.p_num w x).vs = G.vs ∧ (G.p_num w x).vote = G.vote ∧ (G.p_num w x).mark = G.mark ∧ (G.p_num w x).draft = G.draft ∧ (G.p_num w x).up = G.up ∧ (G.p_num w x).par = G.par ∧ (G.p_num w x).ep = G.ep ∧ (G.p_num w x).shown = G.shown ∧ (G.p_num w x).src = G.src ∧ (G.p_num w x).ow = G.ow ∧ (G.p_num w x).line = G.line ∧ (G.p_num w x).tk = G.tk ∧ (G.p_num w x).wt = G.wt ∧ (G.p_num w x).post = G.post ∧ (G.p_num w x).hg = G.hg ∧ (G.p_num w x).fl = G.fl ∧ (G.p_num w x).code = G.code := ⟨rfl, rfl, rfl, rfl, rfl, rfl, rfl, rfl, rfl, rfl, rfl, rfl, rfl, rfl, rfl, rfl, rfl, rfl, rfl, rfl, rfl⟩
theorem pm_f {G : CT} {w : Nat} {x : Int32} : (G.p_mark w x).there = G.there ∧ (G.p_mark w x).home = G.home ∧ (G.p_mark w x).reg = G.reg ∧ (G.p_mark w x).last = G.last ∧ (G.p_mark w x).vs = G.vs ∧ (G.p_mark w x).num = G.num ∧ (G.p_mark w x).vote = G.vote ∧ (G.p_mark w x).draft = G.draft ∧ (G.p_mark w x).up = G.up ∧ (G.p_mark w x).par = G.par ∧ (G.p_mark w x).ep = G.ep ∧ (G.p_mark w x).shown = G.shown ∧ (G.p_mark w x).src = G.src ∧ (G.p_mark w x).ow = G.ow ∧ (G.p_mark w x).line = G.line ∧ (G.p_mark w x).tk = G.tk ∧ (G.p_mark w x).wt = G.wt ∧ (G.p_mark w x).post = G.post ∧ (G.p_mark w x).hg = G.hg ∧ (G.p_mark w x).fl = G.fl ∧ (G.p_mark w x).code = G.code := ⟨rfl, rfl, rfl, rfl, rfl, rfl, rfl, rfl, rfl, rfl, rfl, rfl, rfl, rfl, rfl, rfl, rfl, rfl, rfl, rfl, rfl⟩
theorem pl_f {G : CT} {p w : Nat} : (G.p_last p w).there = G.there ∧ (G.p_last p w).home = G.home ∧ (G.p_last p w).reg = G.reg ∧ (G.p_last p w).vs = G.vs ∧ (G.p_last p w).num = G.num ∧ (G.p_last p w).vote = G.vote ∧ (G.p_last p w).mark = G.mark ∧ (G.p_last p w).draft = G.draft ∧ (G.p_last p w).up = G.up ∧ (G.p_last p w).par = G.par ∧ (G.p_last p w).ep = G.ep ∧ (G.p_last p w).shown = G.shown ∧ (G.p_last p w).src = G.src ∧ (G.p_last p w).ow = G.ow ∧ (G.p_last p w).line = G.line ∧ (G.p_last p w).tk = G.tk ∧ (G.p_last p w).wt = G.wt ∧ (G.p_last p w).post = G.post ∧ (G.p_last p w).hg = G.hg ∧ (G.p_last p w).fl = G.fl ∧ (G.p_last p w).code = G.code := ⟨rfl, rfl, rfl, rfl, rfl, rfl, rfl, rfl, rfl, rfl, rfl, rfl, rfl, rfl, rfl, rfl, rfl, rfl, rfl, rfl, rfl⟩
theorem vl_fr {G : CT} {d : Nat} {inv : Int32} : ∀ i, (y_vl G d inv i).1.there = G.there ∧ (y_vl G d inv i).1.home = G.home ∧ (y_vl G d inv i).1.reg = G.reg ∧ (y_vl G d inv i).1.last = G.last ∧ (y_vl G d inv i).1.vs = G.vs ∧ (y_vl G d inv i).1.num = G.num ∧ (y_vl G d inv i).1.mark = G.mark ∧ (y_vl G d inv i).1.up = G.up ∧ (y_vl G d inv i).1.par = G.par ∧ (y_vl G d inv i).1.ep = G.ep ∧ (y_vl G d inv i).1.shown = G.shown ∧ (y_vl G d inv i).1.src = G.src ∧ (y_vl G d inv i).1.ow = G.ow ∧ (y_vl G d inv i).1.line = G.line ∧ (y_vl G d inv i).1.tk = G.tk ∧ (y_vl G d inv i).1.wt = G.wt ∧ (y_vl G d inv i).1.post = G.post ∧ (y_vl G d inv i).1.hg = G.hg ∧ (y_vl G d inv i).1.fl = G.fl ∧ (y_vl G d inv i).1.code = G.code
  | 0 => ⟨rfl, rfl, rfl, rfl, rfl, rfl, rfl, rfl, rfl, rfl, rfl, rfl, rfl, rfl, rfl, rfl, rfl, rfl, rfl, rfl⟩
  | i + 1 => by
    have ih := vl_fr (G := G) (d := d) (inv := inv) i
    simp only [y_vl]
    refine ⟨pd_f.1.trans (pv_f.1.trans ih.1), pd_f.2.1.trans (pv_f.2.1.trans ih.2.1), pd_f.2.2.1.trans (pv_f.2.2.1.trans ih.2.2.1), pd_f.2.2.2.1.trans (pv_f.2.2.2.1.trans ih.2.2.2.1), pd_f.2.2.2.2.1.trans (pv_f.2.2.2.2.1.trans ih.2.2.2.2.1), pd_f.2.2.2.2.2.1.trans (pv_f.2.2.2.2.2.1.trans ih.2.2.2.2.2.1), pd_f.2.2.2.2.2.2.2.1.trans (pv_f.2.2.2.2.2.2.1.trans ih.2.2.2.2.2.2.1), pd_f.2.2.2.2.2.2.2.2.1.trans (pv_f.2.2.2.2.2.2.2.2.1.trans ih.2.2.2.2.2.2.2.1), pd_f.2.2.2.2.2.2.2.2.2.1.trans (pv_f.2.2.2.2.2.2.2.2.2.1.trans ih.2.2.2.2.2.2.2.2.1), pd_f.2.2.2.2.2.2.2.2.2.2.1.trans (pv_f.2.2.2.2.2.2.2.2.2.2.1.trans ih.2.2.2.2.2.2.2.2.2.1), pd_f.2.2.2.2.2.2.2.2.2.2.2.1.trans (pv_f.2.2.2.2.2.2.2.2.2.2.2.1.trans ih.2.2.2.2.2.2.2.2.2.2.1), pd_f.2.2.2.2.2.2.2.2.2.2.2.2.1.trans (pv_f.2.2.2.2.2.2.2.2.2.2.2.2.1.trans ih.2.2.2.2.2.2.2.2.2.2.2.1), pd_f.2.2.2.2.2.2.2.2.2.2.2.2.2.1.trans (pv_f.2.2.2.2.2.2.2.2.2.2.2.2.2.1.trans ih.2.2.2.2.2.2.2.2.2.2.2.2.1), pd_f.2.2.2.2.2.2.2.2.2.2.2.2.2.2.1.trans (pv_f.2.2.2.2.2.2.2.2.2.2.2.2.2.2.1.trans ih.2.2.2.2.2.2.2.2.2.2.2.2.2.1), pd_f.2.2.2.2.2.2.2.2.2.2.2.2.2.2.2.1.trans (pv_f.2.2.2.2.2.2.2.2.2.2.2.2.2.2.2.1.trans ih.2.2.2.2.2.2.2.2.2.2.2.2.2.2.1), pd_f.2.2.2.2.2.2.2.2.2.2.2.2.2.2.2.2.1.trans (pv_f.2.2.2.2.2.2.2.2.2.2.2.2.2.2.2.2.1.trans ih.2.2.2.2.2.2.2.2.2.2.2.2.2.2.2.1), pd_f.2.2.2.2.2.2.2.2.2.2.2.2.2.2.2.2.2.1.trans (pv_f.2.2.2.2.2.2.2.2.2.2.2.2.2.2.2.2.2.1.trans ih.2.2.2.2.2.2.2.2.2.2.2.2.2.2.2.2.1), pd_f.2.2.2.2.2.2.2.2.2.2.2.2.2.2.2.2.2.2.1.trans (pv_f.2.2.2.2.2.2.2.2.2.2.2.2.2.2.2.2.2.2.1.trans ih.2.2.2.2.2.2.2.2.2.2.2.2.2.2.2.2.2.1), pd_f.2.2.2.2.2.2.2.2.2.2.2.2.2.2.2.2.2.2.2.1.trans (pv_f.2.2.2.2.2.2.2.2.2.2.2.2.2.2.2.2.2.2.2.1.trans ih.2.2.2.2.2.2.2.2.2.2.2.2.2.2.2.2.2.2.1), pd_f.2.2.2.2.2.2.2.2.2.2.2.2.2.2.2.2.2.2.2.2.trans (pv_f.2.2.2.2.2.2.2.2.2.2.2.2.2.2.2.2.2.2.2.2.trans ih.2.2.2.2.2.2.2.2.2.2.2.2.2.2.2.2.2.2.2)⟩
theorem vl_vd {G : CT} {d : Nat} {inv : Int32} (hd : d ≠ G.vs) : ∀ i, (∀ k, (y_vl G d inv i).1.draft k = if k < i then 0 else G.draft k) ∧ (∀ k, (y_vl G d inv i).1.vote G.vs k = if k < i then G.draft k else G.vote G.vs k) ∧ (∀ w k, w ≠ G.vs → (y_vl G d inv i).1.vote w k = G.vote w k) ∧ (y_vl G d inv i).2.1 = y_fa G d i ∧ (y_vl G d inv i).2.2 = y_al G inv i
  | 0 => ⟨fun k => rfl, fun k => rfl, fun w k _ => rfl, rfl, rfl⟩
  | i + 1 => by
    obtain ⟨a1, a2, a3, a4, a5⟩ := vl_vd (inv := inv) hd i
    have hdi : (y_vl G d inv i).1.draft i = G.draft i := (a1 i).trans (if_neg (Nat.lt_irrefl _))
    simp only [y_vl, y_fa, y_al]
    refine ⟨fun k => ?_, fun k => ?_, fun w k hw => ?_, ?_, ?_⟩
    · show ct1 ((y_vl G d inv i).1.p_vote G.vs i ((y_vl G d inv i).1.draft i)).draft i 0 k = _
      rw [pv_f.2.2.2.2.2.2.2.1]
      by_cases e : k = i
      · rw [e, ct1_at, if_pos (by omega)]
      · rw [ct1_ne e, a1 k]
        by_cases c : k < i
        · rw [if_pos c, if_pos (by omega)]
        · rw [if_neg c, if_neg (by omega)]
    · rw [pd_f.2.2.2.2.2.2.1]
      show ct2 (y_vl G d inv i).1.vote G.vs i ((y_vl G d inv i).1.draft i) G.vs k = _
      by_cases e : k = i
      · rw [e, show ct2 (y_vl G d inv i).1.vote G.vs i ((y_vl G d inv i).1.draft i) G.vs i = (y_vl G d inv i).1.draft i from if_pos ⟨rfl, rfl⟩, hdi, if_pos (by omega)]
      · rw [show ct2 (y_vl G d inv i).1.vote G.vs i ((y_vl G d inv i).1.draft i) G.vs k = (y_vl G d inv i).1.vote G.vs k from if_neg (fun z => e z.2), a2 k]
        by_cases c : k < i
        · rw [if_pos c, if_pos (by omega)]
        · rw [if_neg c, if_neg (by omega)]
    · rw [pd_f.2.2.2.2.2.2.1]
      exact (if_neg (fun z => hw z.1)).trans (a3 w k hw)
    · rw [a4, a3 d i hd, hdi]
    · rw [a5, hdi]
theorem fa_of {T G : CT} (h1 : G.vote = T.vote) (h2 : G.draft = T.draft) {d : Nat} : ∀ i, y_fa G d i = y_fa T d i
  | 0 => rfl
  | i + 1 => by
    simp only [y_fa]
    rw [fa_of h1 h2 i, h1, h2]
theorem al_of {T G : CT} (h2 : G.draft = T.draft) {inv : Int32} : ∀ i, y_al G inv i = y_al T inv i
  | 0 => rfl
  | i + 1 => by
    simp only [y_al]
    rw [al_of h2 i, h2]
theorem offer_code {G : CT} {p : Nat} : (y_offer G p).code = G.code := by
  unfold y_offer
  split
  · exact y_own_code
  · rfl
theorem tv_f {T : CT} : (((T.w_code 0).w_code 0).w_vs (T.vs + 1)).there = T.there ∧ (((T.w_code 0).w_code 0).w_vs (T.vs + 1)).home = T.home ∧ (((T.w_code 0).w_code 0).w_vs (T.vs + 1)).reg = T.reg ∧ (((T.w_code 0).w_code 0).w_vs (T.vs + 1)).last = T.last ∧ (((T.w_code 0).w_code 0).w_vs (T.vs + 1)).num = T.num ∧ (((T.w_code 0).w_code 0).w_vs (T.vs + 1)).vote = T.vote ∧ (((T.w_code 0).w_code 0).w_vs (T.vs + 1)).mark = T.mark ∧ (((T.w_code 0).w_code 0).w_vs (T.vs + 1)).draft = T.draft ∧ (((T.w_code 0).w_code 0).w_vs (T.vs + 1)).up = T.up ∧ (((T.w_code 0).w_code 0).w_vs (T.vs + 1)).par = T.par ∧ (((T.w_code 0).w_code 0).w_vs (T.vs + 1)).ep = T.ep ∧ (((T.w_code 0).w_code 0).w_vs (T.vs + 1)).shown = T.shown ∧ (((T.w_code 0).w_code 0).w_vs (T.vs + 1)).src = T.src ∧ (((T.w_code 0).w_code 0).w_vs (T.vs + 1)).ow = T.ow ∧ (((T.w_code 0).w_code 0).w_vs (T.vs + 1)).line = T.line ∧ (((T.w_code 0).w_code 0).w_vs (T.vs + 1)).tk = T.tk ∧ (((T.w_code 0).w_code 0).w_vs (T.vs + 1)).wt = T.wt ∧ (((T.w_code 0).w_code 0).w_vs (T.vs + 1)).post = T.post ∧ (((T.w_code 0).w_code 0).w_vs (T.vs + 1)).hg = T.hg ∧ (((T.w_code 0).w_code 0).w_vs (T.vs + 1)).fl = T.fl := ⟨rfl, rfl, rfl, rfl, rfl, rfl, rfl, rfl, rfl, rfl, rfl, rfl, rfl, rfl, rfl, rfl, rfl, rfl, rfl, rfl⟩
theorem tv_vs {T : CT} : (((T.w_code 0).w_code 0).w_vs (T.vs + 1)).vs = T.vs + 1 := rfl
theorem ver_G {T : CT} {p : Nat} {x inv bal : Int32} (hd : T.last p ≤ T.vs) : ((y_v1 (y_vl (((T.w_code 0).w_code 0).w_vs (T.vs + 1)) (T.last p) inv 6).1 p (y_vl (((T.w_code 0).w_code 0).w_vs (T.vs + 1)) (T.last p) inv 6).1.vs x (y_mark (T.reg p) bal (y_fa T (T.last p) 6) (y_al T inv 6))).there = T.there ∧ (y_v1 (y_vl (((T.w_code 0).w_code 0).w_vs (T.vs + 1)) (T.last p) inv 6).1 p (y_vl (((T.w_code 0).w_code 0).w_vs (T.vs + 1)) (T.last p) inv 6).1.vs x (y_mark (T.reg p) bal (y_fa T (T.last p) 6) (y_al T inv 6))).home = T.home ∧ (y_v1 (y_vl (((T.w_code 0).w_code 0).w_vs (T.vs + 1)) (T.last p) inv 6).1 p (y_vl (((T.w_code 0).w_code 0).w_vs (T.vs + 1)) (T.last p) inv 6).1.vs x (y_mark (T.reg p) bal (y_fa T (T.last p) 6) (y_al T inv 6))).reg = T.reg ∧ (y_v1 (y_vl (((T.w_code 0).w_code 0).w_vs (T.vs + 1)) (T.last p) inv 6).1 p (y_vl (((T.w_code 0).w_code 0).w_vs (T.vs + 1)) (T.last p) inv 6).1.vs x (y_mark (T.reg p) bal (y_fa T (T.last p) 6) (y_al T inv 6))).hg = T.hg ∧ (y_v1 (y_vl (((T.w_code 0).w_code 0).w_vs (T.vs + 1)) (T.last p) inv 6).1 p (y_vl (((T.w_code 0).w_code 0).w_vs (T.vs + 1)) (T.last p) inv 6).1.vs x (y_mark (T.reg p) bal (y_fa T (T.last p) 6) (y_al T inv 6))).fl = T.fl ∧ (y_v1 (y_vl (((T.w_code 0).w_code 0).w_vs (T.vs + 1)) (T.last p) inv 6).1 p (y_vl (((T.w_code 0).w_code 0).w_vs (T.vs + 1)) (T.last p) inv 6).1.vs x (y_mark (T.reg p) bal (y_fa T (T.last p) 6) (y_al T inv 6))).up = T.up ∧ (y_v1 (y_vl (((T.w_code 0).w_code 0).w_vs (T.vs + 1)) (T.last p) inv 6).1 p (y_vl (((T.w_code 0).w_code 0).w_vs (T.vs + 1)) (T.last p) inv 6).1.vs x (y_mark (T.reg p) bal (y_fa T (T.last p) 6) (y_al T inv 6))).par = T.par ∧ (y_v1 (y_vl (((T.w_code 0).w_code 0).w_vs (T.vs + 1)) (T.last p) inv 6).1 p (y_vl (((T.w_code 0).w_code 0).w_vs (T.vs + 1)) (T.last p) inv 6).1.vs x (y_mark (T.reg p) bal (y_fa T (T.last p) 6) (y_al T inv 6))).ep = T.ep ∧ (y_v1 (y_vl (((T.w_code 0).w_code 0).w_vs (T.vs + 1)) (T.last p) inv 6).1 p (y_vl (((T.w_code 0).w_code 0).w_vs (T.vs + 1)) (T.last p) inv 6).1.vs x (y_mark (T.reg p) bal (y_fa T (T.last p) 6) (y_al T inv 6))).tk = T.tk ∧ (y_v1 (y_vl (((T.w_code 0).w_code 0).w_vs (T.vs + 1)) (T.last p) inv 6).1 p (y_vl (((T.w_code 0).w_code 0).w_vs (T.vs + 1)) (T.last p) inv 6).1.vs x (y_mark (T.reg p) bal (y_fa T (T.last p) 6) (y_al T inv 6))).shown = T.shown ∧ (y_v1 (y_vl (((T.w_code 0).w_code 0).w_vs (T.vs + 1)) (T.last p) inv 6).1 p (y_vl (((T.w_code 0).w_code 0).w_vs (T.vs + 1)) (T.last p) inv 6).1.vs x (y_mark (T.reg p) bal (y_fa T (T.last p) 6) (y_al T inv 6))).src = T.src ∧ (y_v1 (y_vl (((T.w_code 0).w_code 0).w_vs (T.vs + 1)) (T.last p) inv 6).1 p (y_vl (((T.w_code 0).w_code 0).w_vs (T.vs + 1)) (T.last p) inv 6).1.vs x (y_mark (T.reg p) bal (y_fa T (T.last p) 6) (y_al T inv 6))).ow = T.ow ∧ (y_v1 (y_vl (((T.w_code 0).w_code 0).w_vs (T.vs + 1)) (T.last p) inv 6).1 p (y_vl (((T.w_code 0).w_code 0).w_vs (T.vs + 1)) (T.last p) inv 6).1.vs x (y_mark (T.reg p) bal (y_fa T (T.last p) 6) (y_al T inv 6))).line = T.line ∧ (y_v1 (y_vl (((T.w_code 0).w_code 0).w_vs (T.vs + 1)) (T.last p) inv 6).1 p (y_vl (((T.w_code 0).w_code 0).w_vs (T.vs + 1)) (T.last p) inv 6).1.vs x (y_mark (T.reg p) bal (y_fa T (T.last p) 6) (y_al T inv 6))).wt = T.wt ∧ (y_v1 (y_vl (((T.w_code 0).w_code 0).w_vs (T.vs + 1)) (T.last p) inv 6).1 p (y_vl (((T.w_code 0).w_code 0).w_vs (T.vs + 1)) (T.last p) inv 6).1.vs x (y_mark (T.reg p) bal (y_fa T (T.last p) 6) (y_al T inv 6))).post = T.post) ∧ (y_v1 (y_vl (((T.w_code 0).w_code 0).w_vs (T.vs + 1)) (T.last p) inv 6).1 p (y_vl (((T.w_code 0).w_code 0).w_vs (T.vs + 1)) (T.last p) inv 6).1.vs x (y_mark (T.reg p) bal (y_fa T (T.last p) 6) (y_al T inv 6))).vs = T.vs + 1 ∧ (y_v1 (y_vl (((T.w_code 0).w_code 0).w_vs (T.vs + 1)) (T.last p) inv 6).1 p (y_vl (((T.w_code 0).w_code 0).w_vs (T.vs + 1)) (T.last p) inv 6).1.vs x (y_mark (T.reg p) bal (y_fa T (T.last p) 6) (y_al T inv 6))).last = ct1 T.last p (T.vs + 1) ∧ (∀ i, i < 6 → (y_v1 (y_vl (((T.w_code 0).w_code 0).w_vs (T.vs + 1)) (T.last p) inv 6).1 p (y_vl (((T.w_code 0).w_code 0).w_vs (T.vs + 1)) (T.last p) inv 6).1.vs x (y_mark (T.reg p) bal (y_fa T (T.last p) 6) (y_al T inv 6))).draft i = 0) ∧ (∀ w, w ≤ T.vs → (y_v1 (y_vl (((T.w_code 0).w_code 0).w_vs (T.vs + 1)) (T.last p) inv 6).1 p (y_vl (((T.w_code 0).w_code 0).w_vs (T.vs + 1)) (T.last p) inv 6).1.vs x (y_mark (T.reg p) bal (y_fa T (T.last p) 6) (y_al T inv 6))).num w = T.num w) ∧ (y_v1 (y_vl (((T.w_code 0).w_code 0).w_vs (T.vs + 1)) (T.last p) inv 6).1 p (y_vl (((T.w_code 0).w_code 0).w_vs (T.vs + 1)) (T.last p) inv 6).1.vs x (y_mark (T.reg p) bal (y_fa T (T.last p) 6) (y_al T inv 6))).num (T.vs + 1) = x ∧ (∀ w, w ≤ T.vs → (y_v1 (y_vl (((T.w_code 0).w_code 0).w_vs (T.vs + 1)) (T.last p) inv 6).1 p (y_vl (((T.w_code 0).w_code 0).w_vs (T.vs + 1)) (T.last p) inv 6).1.vs x (y_mark (T.reg p) bal (y_fa T (T.last p) 6) (y_al T inv 6))).mark w = T.mark w) ∧ (y_v1 (y_vl (((T.w_code 0).w_code 0).w_vs (T.vs + 1)) (T.last p) inv 6).1 p (y_vl (((T.w_code 0).w_code 0).w_vs (T.vs + 1)) (T.last p) inv 6).1.vs x (y_mark (T.reg p) bal (y_fa T (T.last p) 6) (y_al T inv 6))).mark (T.vs + 1) = (y_mark (T.reg p) bal (y_fa T (T.last p) 6) (y_al T inv 6)) ∧ (∀ w i, w ≤ T.vs → i < 6 → (y_v1 (y_vl (((T.w_code 0).w_code 0).w_vs (T.vs + 1)) (T.last p) inv 6).1 p (y_vl (((T.w_code 0).w_code 0).w_vs (T.vs + 1)) (T.last p) inv 6).1.vs x (y_mark (T.reg p) bal (y_fa T (T.last p) 6) (y_al T inv 6))).vote w i = T.vote w i) ∧ (∀ i, i < 6 → (y_v1 (y_vl (((T.w_code 0).w_code 0).w_vs (T.vs + 1)) (T.last p) inv 6).1 p (y_vl (((T.w_code 0).w_code 0).w_vs (T.vs + 1)) (T.last p) inv 6).1.vs x (y_mark (T.reg p) bal (y_fa T (T.last p) 6) (y_al T inv 6))).vote (T.vs + 1) i = T.draft i) ∧ (y_v1 (y_vl (((T.w_code 0).w_code 0).w_vs (T.vs + 1)) (T.last p) inv 6).1 p (y_vl (((T.w_code 0).w_code 0).w_vs (T.vs + 1)) (T.last p) inv 6).1.vs x (y_mark (T.reg p) bal (y_fa T (T.last p) 6) (y_al T inv 6))).code = 0 := by
  have e1 : (y_vl (((T.w_code 0).w_code 0).w_vs (T.vs + 1)) (T.last p) inv 6).1.vs = T.vs + 1 := (vl_fr 6).2.2.2.2.1.trans tv_vs
  obtain ⟨a1, a2, a3, -, -⟩ := vl_vd (G := (((T.w_code 0).w_code 0).w_vs (T.vs + 1))) (d := T.last p) (inv := inv) (by rw [tv_vs]; omega) 6
  unfold y_v1
  rw [e1]
  refine ⟨⟨(pl_f.1.trans (pm_f.1.trans (pn_f.1.trans ((vl_fr 6).1.trans tv_f.1)))), (pl_f.2.1.trans (pm_f.2.1.trans (pn_f.2.1.trans ((vl_fr 6).2.1.trans tv_f.2.1)))), (pl_f.2.2.1.trans (pm_f.2.2.1.trans (pn_f.2.2.1.trans ((vl_fr 6).2.2.1.trans tv_f.2.2.1)))), (pl_f.2.2.2.2.2.2.2.2.2.2.2.2.2.2.2.2.2.2.1.trans (pm_f.2.2.2.2.2.2.2.2.2.2.2.2.2.2.2.2.2.2.1.trans (pn_f.2.2.2.2.2.2.2.2.2.2.2.2.2.2.2.2.2.2.1.trans ((vl_fr 6).2.2.2.2.2.2.2.2.2.2.2.2.2.2.2.2.2.1.trans tv_f.2.2.2.2.2.2.2.2.2.2.2.2.2.2.2.2.2.2.1)))), (pl_f.2.2.2.2.2.2.2.2.2.2.2.2.2.2.2.2.2.2.2.1.trans (pm_f.2.2.2.2.2.2.2.2.2.2.2.2.2.2.2.2.2.2.2.1.trans (pn_f.2.2.2.2.2.2.2.2.2.2.2.2.2.2.2.2.2.2.2.1.trans ((vl_fr 6).2.2.2.2.2.2.2.2.2.2.2.2.2.2.2.2.2.2.1.trans tv_f.2.2.2.2.2.2.2.2.2.2.2.2.2.2.2.2.2.2.2)))), (pl_f.2.2.2.2.2.2.2.2.1.trans (pm_f.2.2.2.2.2.2.2.2.1.trans (pn_f.2.2.2.2.2.2.2.2.1.trans ((vl_fr 6).2.2.2.2.2.2.2.1.trans tv_f.2.2.2.2.2.2.2.2.1)))), (pl_f.2.2.2.2.2.2.2.2.2.1.trans (pm_f.2.2.2.2.2.2.2.2.2.1.trans (pn_f.2.2.2.2.2.2.2.2.2.1.trans ((vl_fr 6).2.2.2.2.2.2.2.2.1.trans tv_f.2.2.2.2.2.2.2.2.2.1)))), (pl_f.2.2.2.2.2.2.2.2.2.2.1.trans (pm_f.2.2.2.2.2.2.2.2.2.2.1.trans (pn_f.2.2.2.2.2.2.2.2.2.2.1.trans ((vl_fr 6).2.2.2.2.2.2.2.2.2.1.trans tv_f.2.2.2.2.2.2.2.2.2.2.1)))), (pl_f.2.2.2.2.2.2.2.2.2.2.2.2.2.2.2.1.trans (pm_f.2.2.2.2.2.2.2.2.2.2.2.2.2.2.2.1.trans (pn_f.2.2.2.2.2.2.2.2.2.2.2.2.2.2.2.1.trans ((vl_fr 6).2.2.2.2.2.2.2.2.2.2.2.2.2.2.1.trans tv_f.2.2.2.2.2.2.2.2.2.2.2.2.2.2.2.1)))), (pl_f.2.2.2.2.2.2.2.2.2.2.2.1.trans (pm_f.2.2.2.2.2.2.2.2.2.2.2.1.trans (pn_f.2.2.2.2.2.2.2.2.2.2.2.1.trans ((vl_fr 6).2.2.2.2.2.2.2.2.2.2.1.trans tv_f.2.2.2.2.2.2.2.2.2.2.2.1)))), (pl_f.2.2.2.2.2.2.2.2.2.2.2.2.1.trans (pm_f.2.2.2.2.2.2.2.2.2.2.2.2.1.trans (pn_f.2.2.2.2.2.2.2.2.2.2.2.2.1.trans ((vl_fr 6).2.2.2.2.2.2.2.2.2.2.2.1.trans tv_f.2.2.2.2.2.2.2.2.2.2.2.2.1)))), (pl_f.2.2.2.2.2.2.2.2.2.2.2.2.2.1.trans (pm_f.2.2.2.2.2.2.2.2.2.2.2.2.2.1.trans (pn_f.2.2.2.2.2.2.2.2.2.2.2.2.2.1.trans ((vl_fr 6).2.2.2.2.2.2.2.2.2.2.2.2.1.trans tv_f.2.2.2.2.2.2.2.2.2.2.2.2.2.1)))), (pl_f.2.2.2.2.2.2.2.2.2.2.2.2.2.2.1.trans (pm_f.2.2.2.2.2.2.2.2.2.2.2.2.2.2.1.trans (pn_f.2.2.2.2.2.2.2.2.2.2.2.2.2.2.1.trans ((vl_fr 6).2.2.2.2.2.2.2.2.2.2.2.2.2.1.trans tv_f.2.2.2.2.2.2.2.2.2.2.2.2.2.2.1)))), (pl_f.2.2.2.2.2.2.2.2.2.2.2.2.2.2.2.2.1.trans (pm_f.2.2.2.2.2.2.2.2.2.2.2.2.2.2.2.2.1.trans (pn_f.2.2.2.2.2.2.2.2.2.2.2.2.2.2.2.2.1.trans ((vl_fr 6).2.2.2.2.2.2.2.2.2.2.2.2.2.2.2.1.trans tv_f.2.2.2.2.2.2.2.2.2.2.2.2.2.2.2.2.1)))), (pl_f.2.2.2.2.2.2.2.2.2.2.2.2.2.2.2.2.2.1.trans (pm_f.2.2.2.2.2.2.2.2.2.2.2.2.2.2.2.2.2.1.trans (pn_f.2.2.2.2.2.2.2.2.2.2.2.2.2.2.2.2.2.1.trans ((vl_fr 6).2.2.2.2.2.2.2.2.2.2.2.2.2.2.2.2.1.trans tv_f.2.2.2.2.2.2.2.2.2.2.2.2.2.2.2.2.2.1))))⟩, pl_f.2.2.2.1.trans (pm_f.2.2.2.2.1.trans (pn_f.2.2.2.2.1.trans e1)), ?_, fun i hi => ?_, fun w hw => ?_, ?_, fun w hw => ?_, ?_, fun w i hw hi => ?_, fun i hi => ?_, pl_f.2.2.2.2.2.2.2.2.2.2.2.2.2.2.2.2.2.2.2.2.trans (pm_f.2.2.2.2.2.2.2.2.2.2.2.2.2.2.2.2.2.2.2.2.trans (pn_f.2.2.2.2.2.2.2.2.2.2.2.2.2.2.2.2.2.2.2.2.trans ((vl_fr 6).2.2.2.2.2.2.2.2.2.2.2.2.2.2.2.2.2.2.2.trans rfl)))⟩
  · show ct1 (((y_vl (((T.w_code 0).w_code 0).w_vs (T.vs + 1)) (T.last p) inv 6).1.p_num (T.vs + 1) x).p_mark (T.vs + 1) (y_mark (T.reg p) bal (y_fa T (T.last p) 6) (y_al T inv 6))).last p (T.vs + 1) = _
    rw [pm_f.2.2.2.1, pn_f.2.2.2.1, (vl_fr 6).2.2.2.1, tv_f.2.2.2.1]
  · rw [pl_f.2.2.2.2.2.2.2.1, pm_f.2.2.2.2.2.2.2.1, pn_f.2.2.2.2.2.2.2.1, a1 i, if_pos hi]
  · rw [pl_f.2.2.2.2.1, pm_f.2.2.2.2.2.1]
    show ct1 (y_vl (((T.w_code 0).w_code 0).w_vs (T.vs + 1)) (T.last p) inv 6).1.num (T.vs + 1) x w = _
    rw [ct1_ne (by omega), (vl_fr 6).2.2.2.2.2.1, tv_f.2.2.2.2.1]
  · rw [pl_f.2.2.2.2.1, pm_f.2.2.2.2.2.1]
    exact ct1_at
  · rw [pl_f.2.2.2.2.2.2.1]
    show ct1 ((y_vl (((T.w_code 0).w_code 0).w_vs (T.vs + 1)) (T.last p) inv 6).1.p_num (T.vs + 1) x).mark (T.vs + 1) _ w = _
    rw [ct1_ne (by omega), pn_f.2.2.2.2.2.2.1, (vl_fr 6).2.2.2.2.2.2.1, tv_f.2.2.2.2.2.2.1]
  · rw [pl_f.2.2.2.2.2.2.1]
    exact ct1_at
  · rw [pl_f.2.2.2.2.2.1, pm_f.2.2.2.2.2.2.1, pn_f.2.2.2.2.2.1, a3 w i (by rw [tv_vs]; omega), tv_f.2.2.2.2.2.1]
  · rw [pl_f.2.2.2.2.2.1, pm_f.2.2.2.2.2.2.1, pn_f.2.2.2.2.2.1]
    have := a2 i
    rw [tv_vs, if_pos hi, tv_f.2.2.2.2.2.2.2.1] at this
    exact this
theorem cnt_ok {x : Int32} (h : ¬ (x < 0 ∨ 10000000 < x)) : 0 ≤ x.toInt ∧ x.toInt ≤ 10000000 := by
  obtain ⟨h1, h2⟩ := not_or.1 h
  have a1 := mt Int32.lt_iff_toInt_lt.2 h1
  have a2 := mt Int32.lt_iff_toInt_lt.2 h2
  rw [show (0 : Int32).toInt = 0 from rfl] at a1
  rw [show (10000000 : Int32).toInt = 10000000 from rfl] at a2
  omega
theorem h_version {l : Launch} {D : gzD} {K : gzK} {M : gzM} {n nc ns : Nat} {M0 : gzM} {b : Nat} {v : gV} {g : gG} {T : CT} (hC : RC M0 b v g T M n nc ns)(hD : RM D) (hb : b + 1000 ≤ 300000) (hls : l.stackTraces = false) {xp x inv bal : Int32} (hI : JI T) (hTL : TL T) (hP : pot T < 9000) (h0 : T.num 0 = 0) (hdr : ∀ k, k < 6 → 0 ≤ (T.draft k).toInt ∧ (T.draft k).toInt ≤ 10000000) (hown : ∀ o p, o < 12 → p < 40 → y_may T o p o = true → T.ow o p = false) (k : ∀ v g M n nc ns, RC M0 (b + 560) v g ((z_version T xp x inv bal).2) M n nc ns → ((z_version T xp x inv bal).2).code = 0 → K (.inl (some (.int (z_version T xp x inv bal).1))) M n nc ns) (kx : ∀ e ci g M n nc ns, RC M0 (b + 560) v g ((z_version T xp x inv bal).2) M n nc ns → M e = some (.inr (ci, [])) → (((z_version T xp x inv bal).2).code, ci) ∈ ([(1, 8), (2, 9), (3, 11)] : List (Int32 × Nat)) → K (.inr e) M n nc ns) : GZ l P1 D F_H_version K 0 [some (.ref 3), some (.int xp), some (.int x), some (.int inv), some (.int bal), none, none] [] M n nc ns := by
  replace hC := hC.code 0
  refine gz_aload_n gd_H_version_0 rfl rfl (gz_isr.r _) ?_
  refine gz_iload_n gd_H_version_1 rfl rfl ?_
  refine gz_virtual1 gd_H_version_2 hC.1.house rfl rfl gs_H_version_2 (Nat.le_of_ble_eq_true rfl) (Nat.le_of_ble_eq_true rfl) ?_
  refine h_precT (T := T.w_code 0) hC hD (by omega) hls (fun p hp e0 ht => ?_) (fun ep ex M1 n1 nc1 ns1 hC hx => GT.out rfl ?_)
  ·
    subst e0
    have ep := isP_s hp ht
    replace ep : isP T (nI p) = some p := ep
    replace ht : T.there p = true := ht
    have hlp := hI.1.last p hp
    have hvs := hI.1.vs
    refine gz_astore gd_H_version_5 (Nat.le_of_ble_eq_true rfl) rfl (gz_isr.r _) ?_
    refine gz_iload_n gd_H_version_7 rfl rfl ?_
    refine gz_aload gd_H_version_8 rfl (gz_isr.r _) ?_
    refine gz_static1 gd_H_version_10 gs_H_version_10 (Nat.le_of_ble_eq_true rfl) (Nat.le_of_ble_eq_true rfl) ?_
    refine h_newestN (T := T.w_code 0) hC hp ht hlp h0 ?_
    refine gz_icmp_gt (tgt := 26) gd_H_version_13 (by decide) (fun h13 => ?_) (fun h13 => ?_)
    ·
      replace h13 : T.num (T.last p) < x := h13
      refine gz_iload_n gd_H_version_26 rfl rfl ?_
      refine gz_static1 gd_H_version_27 gs_H_version_27 (Nat.le_of_ble_eq_true rfl) (Nat.le_of_ble_eq_true rfl) ?_
      refine h_reqCount hC hD (by omega) hls (fun v1 => ?_) (fun v1 ex M1 n1 nc1 ns1 hC hx => GT.out rfl ?_)
      ·
        refine gz_iload gd_H_version_30 rfl ?_
        refine gz_static1 gd_H_version_32 gs_H_version_32 (Nat.le_of_ble_eq_true rfl) (Nat.le_of_ble_eq_true rfl) ?_
        refine h_reqCount hC hD (by omega) hls (fun v2 => ?_) (fun v2 ex M1 n1 nc1 ns1 hC hx => GT.out rfl ?_)
        ·
          refine gz_aload_n gd_H_version_35 rfl rfl (gz_isr.r _) ?_
          refine gq_getf (y := .int (nI T.vs)) gd_H_version_36 gf_H_80 hC.1.house rfl rfl ?_
          refine gz_sipush (v := 300) gd_H_version_39 (by decide) ?_
          refine gz_icmp_lt (tgt := 55) gd_H_version_42 (by decide) (fun h42 => ?_) (fun h42 => ?_)
          ·
            replace h42 := (nI_ltI (a := T.vs) (b := 300) (by omega) (by omega)).1 h42
            have hiv : 0 ≤ inv.toInt ∧ inv.toInt ≤ 10000000 := cnt_ok v1
            refine gz_aload_n gd_H_version_55 rfl rfl (gz_isr.r _) ?_
            refine gz_aload gd_H_version_56 rfl (gz_isr.r _) ?_
            refine gz_iload_n gd_H_version_58 rfl rfl ?_
            refine gz_iload gd_H_version_59 rfl ?_
            refine gz_virtual3 gd_H_version_61 hC.1.house rfl rfl gs_H_version_61 (Nat.le_of_ble_eq_true rfl) (Nat.le_of_ble_eq_true rfl) ?_
            refine h_marks (T := T.w_code 0) hC hp ht hI.1.w_code hiv hdr ?_
            rw [show y_mark ((T.w_code 0).reg p) bal (y_fa (T.w_code 0) ((T.w_code 0).last p) 6) (y_al (T.w_code 0) inv 6) = (y_mark (T.reg p) bal (y_fa T (T.last p) 6) (y_al T inv 6)) by rw [fa_of (T := T) rfl rfl, al_of (T := T) rfl]; rfl]
            generalize hmk : (y_mark (T.reg p) bal (y_fa T (T.last p) 6) (y_al T inv 6)) = mk
            refine gz_istore gd_H_version_64 (Nat.le_of_ble_eq_true rfl) rfl ?_
            refine gz_aload gd_H_version_66 rfl (gz_isr.r _) ?_
            have hr := hC.room hD (by omega)
            have hC0 := hC
            have hn114 := hC0.2.1.n114
            have hpo := hC0.2.1.pobj p hp ht
            have hpg := hC0.2.1.pgt p hp ht
            have hpn : v.pid p ≠ n := fun e => by rw [e, hC0.2.1.fresh n (Nat.le_refl _)] at hpo; cases hpo
            have hpn1 : v.pid p ≠ n + 1 := fun e => by rw [e, hC0.2.1.fresh (n + 1) (by omega)] at hpo; cases hpo
            refine gy_new gd_H_version_68 gn_H_version_68 (by omega) (by show ns + 3 ≤ _; omega) (fun M1 hX hN1 => ?_)
            replace hC := (hC0.alloc (sz := 3) hN1 (by decide)).1
            refine gz_dup gd_H_version_71 rfl ?_
            refine gz_iload_n gd_H_version_72 rfl rfl ?_
            refine gz_aload_n gd_H_version_73 rfl rfl (gz_isr.r _) ?_
            refine gq_getf (y := .ref (7)) gd_H_version_74 gf_H_28 hC.1.house rfl rfl ?_
            obtain ⟨fd, hfd, hfe⟩ := hC.1.draft
            refine gz_clone (kd := 1) gd_H_version_77 rfl (fun s cA h => h) gw_384 gw_385 gw_386 gw_387 gw_388 gw_389 hfd (fun j hj => by rw [hfe j hj]; exact gz_fits.i) (by decide) (Nat.le_of_ble_eq_true rfl) (by omega) (by show ns + 3 + 6 ≤ _; omega) ?_
            have hA : gz_up M1 (n + 1) (.inl (1, 6, fd)) (n + 1) = _ := gz_up_s
            have hN2 : ∀ j, j ≠ n + 1 → gz_up M1 (n + 1) (.inl (1, 6, fd)) j = M1 j := fun j hj => gz_up_n hj
            generalize gz_up M1 (n + 1) (.inl (1, 6, fd)) = M2 at hA hN2 ⊢
            replace hX := (hN2 n (by omega)).trans hX
            refine gz_castA (kd := 1) gd_H_version_80 rfl (fun s cA h => h) gw_390 hA ?_
            refine gz_iload gd_H_version_83 rfl ?_
            refine gz_special3 gd_H_version_85 gs_H_version_85 (Nat.le_of_ble_eq_true rfl) (Nat.le_of_ble_eq_true rfl) ?_
            refine v_init hX (gz_isr.r _) rfl (fun M3 hX hN3 => ?_)
            have hP3 : M3 (v.pid p) = _ := (hN3 _ hpn).trans ((hN2 _ hpn1).trans ((hN1 _ hpn).trans hpo))
            refine gy_putf gd_H_version_88 gf_H_103 gc_4 gr_H_version_4_2 hP3 (gz_fits.o (gz_isr.r _)) (fun M4 hP4 hN4 => ?_)
            have hH4 : M4 3 = _ := (hN4 3 (by omega)).trans ((hN3 3 (by omega)).trans ((hN2 3 (by omega)).trans ((hN1 3 (by omega)).trans hC0.1.house)))
            refine gz_aload_n gd_H_version_91 rfl rfl (gz_isr.r _) ?_
            refine gz_dup gd_H_version_92 rfl ?_
            refine gq_getf (y := .int (nI T.vs)) gd_H_version_93 gf_H_80 hH4 rfl rfl ?_
            refine gz_iconst (v := 1) gd_H_version_96 (by decide) ?_
            refine gq_iadd (z := nI (T.vs + 1)) gd_H_version_97 (nI_add T.vs 1) ?_
            refine gy_putf gd_H_version_98 gf_H_80 gc_0 gr_H_version_0_7 hH4 gz_fits.i (fun M5 hH5 hN5 => ?_)
            obtain ⟨fz, h7, -⟩ : ∃ f, M5 7 = some (.inl (1, 6, f)) ∧ True := by
              obtain ⟨f, z1, -⟩ := hC0.1.draft
              exact ⟨f, (hN5 7 (by omega)).trans ((hN4 7 (by omega)).trans ((hN3 7 (by omega)).trans ((hN2 7 (by omega)).trans ((hN1 7 (by omega)).trans z1)))), trivial⟩
            refine gz_aload_n gd_H_version_101 rfl rfl (gz_isr.r _) ?_
            refine gq_getf (y := .ref 7) gd_H_version_102 gf_H_28 hH5 rfl rfl ?_
            refine gz_iconst (v := 0) gd_H_version_105 (by decide) ?_
            refine gz_static2 gd_H_version_106 gs_H_version_106 (Nat.le_of_ble_eq_true rfl) (Nat.le_of_ble_eq_true rfl) ?_
            refine j_fill h7 (by decide) (fun M6 f7 h7 hf7 hN6 => ?_)
            have hH6 := (hN6 3 (by omega)).trans hH5
            refine gz_aload_n gd_H_version_109 rfl rfl (gz_isr.r _) ?_
            refine gz_iload_n gd_H_version_110 rfl rfl ?_
            refine gz_aload gd_H_version_111 rfl (gz_isr.r _) ?_
            refine gz_virtual2 gd_H_version_113 hH6 rfl rfl gs_H_version_113 (Nat.le_of_ble_eq_true rfl) (Nat.le_of_ble_eq_true rfl) ?_
            obtain ⟨⟨qthere, qhome, qreg, qhg, qfl, qup, qpar, qep, qtk, qshown, qsrc, qow, qline, qwt, qpost⟩, q1, q2, q3, q4, q5, q6, q7, q8, q9, q10⟩ := ver_G (T := T) (p := p) (x := x) (inv := inv) (bal := bal) hlp
            have hJV : JI (((T.w_code 0).w_code 0).w_vs (T.vs + 1)) := JI.w_vs (JI.code (v := 0) (JI.code (v := 0) hI)) (show T.vs + 1 ≤ 300 by omega)
            obtain ⟨j1, j2, j3⟩ := vl_f (d := T.last p) (inv := inv) hJV 6
            have hJG : JI (y_v1 (y_vl (((T.w_code 0).w_code 0).w_vs (T.vs + 1)) (T.last p) inv 6).1 p (y_vl (((T.w_code 0).w_code 0).w_vs (T.vs + 1)) (T.last p) inv 6).1.vs x (y_mark (T.reg p) bal (y_fa T (T.last p) 6) (y_al T inv 6))) := j2.v1 (Nat.le_refl _) (by rw [j1]; exact Nat.succ_pos _)
            rw [hmk] at qthere qhome qreg qhg qfl qup qpar qep qtk qshown qsrc qow qline qwt qpost q1 q2 q3 q4 q5 q6 q7 q8 q9 q10 hJG
            have hN : ∀ j, j ≠ n → j ≠ n + 1 → j ≠ v.pid p → j ≠ 3 → j ≠ 7 → M6 j = M j := fun j a1 a2 a3 a4 a5 => (hN6 j a5).trans ((hN5 j a4).trans ((hN4 j a3).trans ((hN3 j a1).trans ((hN2 j a2).trans (hN1 j a1)))))
            have hCG := hC0.uncode.newV hI.1 hp ht qthere qhome qreg qhg qfl qup qpar qep qtk qshown qsrc qow qline qwt qpost q1 q2 q3 q4 q5 q6 q7 q8 q9 hN ((hN6 n (by omega)).trans ((hN5 n (by omega)).trans ((hN4 n (Ne.symm hpn)).trans hX))) ((hN6 _ (by omega)).trans ((hN5 _ (by omega)).trans ((hN4 _ (by omega)).trans ((hN3 _ (by omega)).trans hA)))) hfe ((hN6 _ (by omega)).trans ((hN5 _ (by omega)).trans hP4)) ((hN6 3 (by omega)).trans hH5) h7 hf7
            simp only [z_version, ep, if_neg (Int32.not_le.2 h13), if_neg v1, if_neg v2, if_neg (show ¬ T.vs = 300 by omega), y_ver] at k
            obtain ⟨-, -, -, b4, b5⟩ := vl_vd (G := (((T.w_code 0).w_code 0).w_vs (T.vs + 1))) (d := T.last p) (inv := inv) (by rw [tv_vs]; omega) 6
            have emk : y_mark ((y_vl (((T.w_code 0).w_code 0).w_vs (T.vs + 1)) (T.last p) inv 6).1.reg p) bal (y_vl (((T.w_code 0).w_code 0).w_vs (T.vs + 1)) (T.last p) inv 6).2.1 (y_vl (((T.w_code 0).w_code 0).w_vs (T.vs + 1)) (T.last p) inv 6).2.2 = (y_mark (T.reg p) bal (y_fa T (T.last p) 6) (y_al T inv 6)) := by
              rw [b4, b5, fa_of (T := T) tv_f.2.2.2.2.2.1 tv_f.2.2.2.2.2.2.2.1, al_of (T := T) tv_f.2.2.2.2.2.2.2.1, (vl_fr 6).2.2.1, tv_f.2.2.1]
            rw [emk, hmk] at k
            generalize (y_v1 (y_vl (((T.w_code 0).w_code 0).w_vs (T.vs + 1)) (T.last p) inv 6).1 p (y_vl (((T.w_code 0).w_code 0).w_vs (T.vs + 1)) (T.last p) inv 6).1.vs x mk) = G at k hCG hJG qthere qhome qline qpost qshown qsrc qow q10
            refine h_offer (o := G.home p) hCG hD (by omega) hp (by rw [qthere]; exact ht) rfl hJG.1 (by rw [qline, qhome]; exact JI.lroom hP (hI.1.home p hp)) (fun e => ?_) (fun g2 M7 n2 nc2 ns2 hC => ?_)
            ·
              rw [qow, qhome]
              refine hown _ p (hI.1.home p hp) hp ?_
              rw [← e]
              unfold y_may
              rw [qshown, qsrc, qhome]
            ·
              refine gz_iload gd_H_version_116 rfl ?_
              refine gz_ireturn gd_H_version_118 rfl rfl ?_
              exact k _ _ _ _ _ _ (hC.le (by omega)) (offer_code.trans q10)
          ·
            replace h42 := mt (nI_ltI (a := T.vs) (b := 300) (by omega) (by omega)).2 h42
            have hrx := hC.room hD (by omega)
            refine gz_throw hls gt_H_version_45 gd_H_version_45 gd_H_version_48 gd_H_version_49 gd_H_version_51 gd_H_version_54 rfl (Nat.le_of_ble_eq_true rfl) (Nat.le_of_ble_eq_true rfl) (by omega) (by omega) ?_
            simp only [z_version, ep, if_neg (Int32.not_le.2 h13), if_neg v1, if_neg v2, if_pos (show T.vs = 300 by omega)] at kx
            exact kx _ _ _ _ _ _ _ (((((hC.alloc (fun j hj => gz_up_n hj) (by decide)).1).le (by omega)).code 3)) gz_up_s (by show ((3 : Int32), _) ∈ _; decide)
        ·
          simp only [z_version, ep, if_neg (Int32.not_le.2 h13), if_neg v1, if_pos v2] at kx
          exact kx _ _ _ _ _ _ _ ((hC.le (by omega)).code 2) hx (by show ((2 : Int32), _) ∈ _; decide)
      ·
        simp only [z_version, ep, if_neg (Int32.not_le.2 h13), if_pos v1] at kx
        exact kx _ _ _ _ _ _ _ ((hC.le (by omega)).code 2) hx (by show ((2 : Int32), _) ∈ _; decide)
    ·
      replace h13 : ¬ T.num (T.last p) < x := h13
      have hrx := hC.room hD (by omega)
      refine gz_throw hls gt_H_version_16 gd_H_version_16 gd_H_version_19 gd_H_version_20 gd_H_version_22 gd_H_version_25 rfl (Nat.le_of_ble_eq_true rfl) (Nat.le_of_ble_eq_true rfl) (by omega) (by omega) ?_
      simp only [z_version, ep, if_pos (Int32.not_lt.1 h13)] at kx
      exact kx _ _ _ _ _ _ _ (((((hC.alloc (fun j hj => gz_up_n hj) (by decide)).1).le (by omega)).code 2)) gz_up_s (by show ((2 : Int32), _) ∈ _; decide)
  ·
    replace ep : isP T xp = none := ep
    simp only [z_version, ep] at kx
    exact kx _ _ _ _ _ _ _ ((hC.le (by omega)).recode 1) hx (by show ((1 : Int32), _) ∈ _; decide)

