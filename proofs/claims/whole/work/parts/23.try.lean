/-! Frames, and the rounds of trying what waits. Printed by wip/whole/try.py -/
theorem y_send_there {T : CT} {o k : Nat} {x : Nat × Nat} : (y_send T o k x).there = T.there := by
  unfold y_send
  split <;> rfl
theorem y_send_home {T : CT} {o k : Nat} {x : Nat × Nat} : (y_send T o k x).home = T.home := by
  unfold y_send
  split <;> rfl
theorem y_send_reg {T : CT} {o k : Nat} {x : Nat × Nat} : (y_send T o k x).reg = T.reg := by
  unfold y_send
  split <;> rfl
theorem y_send_last {T : CT} {o k : Nat} {x : Nat × Nat} : (y_send T o k x).last = T.last := by
  unfold y_send
  split <;> rfl
theorem y_send_vs {T : CT} {o k : Nat} {x : Nat × Nat} : (y_send T o k x).vs = T.vs := by
  unfold y_send
  split <;> rfl
theorem y_send_num {T : CT} {o k : Nat} {x : Nat × Nat} : (y_send T o k x).num = T.num := by
  unfold y_send
  split <;> rfl
theorem y_send_vote {T : CT} {o k : Nat} {x : Nat × Nat} : (y_send T o k x).vote = T.vote := by
  unfold y_send
  split <;> rfl
theorem y_send_mark {T : CT} {o k : Nat} {x : Nat × Nat} : (y_send T o k x).mark = T.mark := by
  unfold y_send
  split <;> rfl
theorem y_send_draft {T : CT} {o k : Nat} {x : Nat × Nat} : (y_send T o k x).draft = T.draft := by
  unfold y_send
  split <;> rfl
theorem y_send_up {T : CT} {o k : Nat} {x : Nat × Nat} : (y_send T o k x).up = T.up := by
  unfold y_send
  split <;> rfl
theorem y_send_par {T : CT} {o k : Nat} {x : Nat × Nat} : (y_send T o k x).par = T.par := by
  unfold y_send
  split <;> rfl
theorem y_send_ep {T : CT} {o k : Nat} {x : Nat × Nat} : (y_send T o k x).ep = T.ep := by
  unfold y_send
  split <;> rfl
theorem y_send_shown {T : CT} {o k : Nat} {x : Nat × Nat} : (y_send T o k x).shown = T.shown := by
  unfold y_send
  split <;> rfl
theorem y_send_src {T : CT} {o k : Nat} {x : Nat × Nat} : (y_send T o k x).src = T.src := by
  unfold y_send
  split <;> rfl
theorem y_send_ow {T : CT} {o k : Nat} {x : Nat × Nat} : (y_send T o k x).ow = T.ow := by
  unfold y_send
  split <;> rfl
theorem y_send_line {T : CT} {o k : Nat} {x : Nat × Nat} : (y_send T o k x).line = T.line := by
  unfold y_send
  split <;> rfl
theorem y_send_tk {T : CT} {o k : Nat} {x : Nat × Nat} : (y_send T o k x).tk = T.tk := by
  unfold y_send
  split <;> rfl
theorem y_send_wt {T : CT} {o k : Nat} {x : Nat × Nat} : (y_send T o k x).wt = T.wt := by
  unfold y_send
  split <;> rfl
theorem y_send_hg {T : CT} {o k : Nat} {x : Nat × Nat} : (y_send T o k x).hg = T.hg := by
  unfold y_send
  split <;> rfl
theorem y_send_fl {T : CT} {o k : Nat} {x : Nat × Nat} : (y_send T o k x).fl = T.fl := by
  unfold y_send
  split <;> rfl
theorem y_send_code {T : CT} {o k : Nat} {x : Nat × Nat} : (y_send T o k x).code = T.code := by
  unfold y_send
  split <;> rfl
theorem y_tell_there {T : CT} {o p v : Nat} : (y_tell T o p v).there = T.there := y_send_there
theorem y_tell_home {T : CT} {o p v : Nat} : (y_tell T o p v).home = T.home := y_send_home
theorem y_tell_reg {T : CT} {o p v : Nat} : (y_tell T o p v).reg = T.reg := y_send_reg
theorem y_tell_last {T : CT} {o p v : Nat} : (y_tell T o p v).last = T.last := y_send_last
theorem y_tell_vs {T : CT} {o p v : Nat} : (y_tell T o p v).vs = T.vs := y_send_vs
theorem y_tell_num {T : CT} {o p v : Nat} : (y_tell T o p v).num = T.num := y_send_num
theorem y_tell_vote {T : CT} {o p v : Nat} : (y_tell T o p v).vote = T.vote := y_send_vote
theorem y_tell_mark {T : CT} {o p v : Nat} : (y_tell T o p v).mark = T.mark := y_send_mark
theorem y_tell_draft {T : CT} {o p v : Nat} : (y_tell T o p v).draft = T.draft := y_send_draft
theorem y_tell_up {T : CT} {o p v : Nat} : (y_tell T o p v).up = T.up := y_send_up
theorem y_tell_par {T : CT} {o p v : Nat} : (y_tell T o p v).par = T.par := y_send_par
theorem y_tell_ep {T : CT} {o p v : Nat} : (y_tell T o p v).ep = T.ep := y_send_ep
theorem y_tell_shown {T : CT} {o p v : Nat} : (y_tell T o p v).shown = T.shown := y_send_shown
theorem y_tell_src {T : CT} {o p v : Nat} : (y_tell T o p v).src = T.src := y_send_src
theorem y_tell_ow {T : CT} {o p v : Nat} : (y_tell T o p v).ow = T.ow := y_send_ow
theorem y_tell_tk {T : CT} {o p v : Nat} : (y_tell T o p v).tk = T.tk := y_send_tk
theorem y_tell_wt {T : CT} {o p v : Nat} : (y_tell T o p v).wt = T.wt := y_send_wt
theorem y_tell_hg {T : CT} {o p v : Nat} : (y_tell T o p v).hg = T.hg := y_send_hg
theorem y_tell_fl {T : CT} {o p v : Nat} : (y_tell T o p v).fl = T.fl := y_send_fl
theorem y_tell_code {T : CT} {o p v : Nat} : (y_tell T o p v).code = T.code := y_send_code
theorem y_set_there {T : CT} {o p v : Nat} {s : Option Nat} : (y_set T o p v s).there = T.there := by
  unfold y_set
  split
  · exact y_tell_there
  · rfl
theorem y_set_home {T : CT} {o p v : Nat} {s : Option Nat} : (y_set T o p v s).home = T.home := by
  unfold y_set
  split
  · exact y_tell_home
  · rfl
theorem y_set_reg {T : CT} {o p v : Nat} {s : Option Nat} : (y_set T o p v s).reg = T.reg := by
  unfold y_set
  split
  · exact y_tell_reg
  · rfl
theorem y_set_last {T : CT} {o p v : Nat} {s : Option Nat} : (y_set T o p v s).last = T.last := by
  unfold y_set
  split
  · exact y_tell_last
  · rfl
theorem y_set_vs {T : CT} {o p v : Nat} {s : Option Nat} : (y_set T o p v s).vs = T.vs := by
  unfold y_set
  split
  · exact y_tell_vs
  · rfl
theorem y_set_num {T : CT} {o p v : Nat} {s : Option Nat} : (y_set T o p v s).num = T.num := by
  unfold y_set
  split
  · exact y_tell_num
  · rfl
theorem y_set_vote {T : CT} {o p v : Nat} {s : Option Nat} : (y_set T o p v s).vote = T.vote := by
  unfold y_set
  split
  · exact y_tell_vote
  · rfl
theorem y_set_mark {T : CT} {o p v : Nat} {s : Option Nat} : (y_set T o p v s).mark = T.mark := by
  unfold y_set
  split
  · exact y_tell_mark
  · rfl
theorem y_set_draft {T : CT} {o p v : Nat} {s : Option Nat} : (y_set T o p v s).draft = T.draft := by
  unfold y_set
  split
  · exact y_tell_draft
  · rfl
theorem y_set_up {T : CT} {o p v : Nat} {s : Option Nat} : (y_set T o p v s).up = T.up := by
  unfold y_set
  split
  · exact y_tell_up
  · rfl
theorem y_set_par {T : CT} {o p v : Nat} {s : Option Nat} : (y_set T o p v s).par = T.par := by
  unfold y_set
  split
  · exact y_tell_par
  · rfl
theorem y_set_ep {T : CT} {o p v : Nat} {s : Option Nat} : (y_set T o p v s).ep = T.ep := by
  unfold y_set
  split
  · exact y_tell_ep
  · rfl
theorem y_set_ow {T : CT} {o p v : Nat} {s : Option Nat} : (y_set T o p v s).ow = T.ow := by
  unfold y_set
  split
  · exact y_tell_ow
  · rfl
theorem y_set_tk {T : CT} {o p v : Nat} {s : Option Nat} : (y_set T o p v s).tk = T.tk := by
  unfold y_set
  split
  · exact y_tell_tk
  · rfl
theorem y_set_wt {T : CT} {o p v : Nat} {s : Option Nat} : (y_set T o p v s).wt = T.wt := by
  unfold y_set
  split
  · exact y_tell_wt
  · rfl
theorem y_set_hg {T : CT} {o p v : Nat} {s : Option Nat} : (y_set T o p v s).hg = T.hg := by
  unfold y_set
  split
  · exact y_tell_hg
  · rfl
theorem y_set_fl {T : CT} {o p v : Nat} {s : Option Nat} : (y_set T o p v s).fl = T.fl := by
  unfold y_set
  split
  · exact y_tell_fl
  · rfl
theorem y_set_code {T : CT} {o p v : Nat} {s : Option Nat} : (y_set T o p v s).code = T.code := by
  unfold y_set
  split
  · exact y_tell_code
  · rfl
theorem y_unset_there {T : CT} {o p j : Nat} : (y_unset T o p j).there = T.there := by
  unfold y_unset
  split
  · exact y_set_there
  · rfl
theorem y_unset_home {T : CT} {o p j : Nat} : (y_unset T o p j).home = T.home := by
  unfold y_unset
  split
  · exact y_set_home
  · rfl
theorem y_unset_reg {T : CT} {o p j : Nat} : (y_unset T o p j).reg = T.reg := by
  unfold y_unset
  split
  · exact y_set_reg
  · rfl
theorem y_unset_last {T : CT} {o p j : Nat} : (y_unset T o p j).last = T.last := by
  unfold y_unset
  split
  · exact y_set_last
  · rfl
theorem y_unset_vs {T : CT} {o p j : Nat} : (y_unset T o p j).vs = T.vs := by
  unfold y_unset
  split
  · exact y_set_vs
  · rfl
theorem y_unset_num {T : CT} {o p j : Nat} : (y_unset T o p j).num = T.num := by
  unfold y_unset
  split
  · exact y_set_num
  · rfl
theorem y_unset_vote {T : CT} {o p j : Nat} : (y_unset T o p j).vote = T.vote := by
  unfold y_unset
  split
  · exact y_set_vote
  · rfl
theorem y_unset_mark {T : CT} {o p j : Nat} : (y_unset T o p j).mark = T.mark := by
  unfold y_unset
  split
  · exact y_set_mark
  · rfl
theorem y_unset_draft {T : CT} {o p j : Nat} : (y_unset T o p j).draft = T.draft := by
  unfold y_unset
  split
  · exact y_set_draft
  · rfl
theorem y_unset_up {T : CT} {o p j : Nat} : (y_unset T o p j).up = T.up := by
  unfold y_unset
  split
  · exact y_set_up
  · rfl
theorem y_unset_par {T : CT} {o p j : Nat} : (y_unset T o p j).par = T.par := by
  unfold y_unset
  split
  · exact y_set_par
  · rfl
theorem y_unset_ep {T : CT} {o p j : Nat} : (y_unset T o p j).ep = T.ep := by
  unfold y_unset
  split
  · exact y_set_ep
  · rfl
theorem y_unset_ow {T : CT} {o p j : Nat} : (y_unset T o p j).ow = T.ow := by
  unfold y_unset
  split
  · exact y_set_ow
  · rfl
theorem y_unset_tk {T : CT} {o p j : Nat} : (y_unset T o p j).tk = T.tk := by
  unfold y_unset
  split
  · exact y_set_tk
  · rfl
theorem y_unset_wt {T : CT} {o p j : Nat} : (y_unset T o p j).wt = T.wt := by
  unfold y_unset
  split
  · exact y_set_wt
  · rfl
theorem y_unset_hg {T : CT} {o p j : Nat} : (y_unset T o p j).hg = T.hg := by
  unfold y_unset
  split
  · exact y_set_hg
  · rfl
theorem y_unset_fl {T : CT} {o p j : Nat} : (y_unset T o p j).fl = T.fl := by
  unfold y_unset
  split
  · exact y_set_fl
  · rfl
theorem y_unset_code {T : CT} {o p j : Nat} : (y_unset T o p j).code = T.code := by
  unfold y_unset
  split
  · exact y_set_code
  · rfl
theorem y_own_there {T : CT} {o p : Nat} : (y_own T o p).there = T.there := by
  unfold y_own
  split
  · exact y_set_there
  · rfl
theorem y_own_home {T : CT} {o p : Nat} : (y_own T o p).home = T.home := by
  unfold y_own
  split
  · exact y_set_home
  · rfl
theorem y_own_reg {T : CT} {o p : Nat} : (y_own T o p).reg = T.reg := by
  unfold y_own
  split
  · exact y_set_reg
  · rfl
theorem y_own_last {T : CT} {o p : Nat} : (y_own T o p).last = T.last := by
  unfold y_own
  split
  · exact y_set_last
  · rfl
theorem y_own_vs {T : CT} {o p : Nat} : (y_own T o p).vs = T.vs := by
  unfold y_own
  split
  · exact y_set_vs
  · rfl
theorem y_own_num {T : CT} {o p : Nat} : (y_own T o p).num = T.num := by
  unfold y_own
  split
  · exact y_set_num
  · rfl
theorem y_own_vote {T : CT} {o p : Nat} : (y_own T o p).vote = T.vote := by
  unfold y_own
  split
  · exact y_set_vote
  · rfl
theorem y_own_mark {T : CT} {o p : Nat} : (y_own T o p).mark = T.mark := by
  unfold y_own
  split
  · exact y_set_mark
  · rfl
theorem y_own_draft {T : CT} {o p : Nat} : (y_own T o p).draft = T.draft := by
  unfold y_own
  split
  · exact y_set_draft
  · rfl
theorem y_own_up {T : CT} {o p : Nat} : (y_own T o p).up = T.up := by
  unfold y_own
  split
  · exact y_set_up
  · rfl
theorem y_own_par {T : CT} {o p : Nat} : (y_own T o p).par = T.par := by
  unfold y_own
  split
  · exact y_set_par
  · rfl
theorem y_own_ep {T : CT} {o p : Nat} : (y_own T o p).ep = T.ep := by
  unfold y_own
  split
  · exact y_set_ep
  · rfl
theorem y_own_tk {T : CT} {o p : Nat} : (y_own T o p).tk = T.tk := by
  unfold y_own
  split
  · exact y_set_tk
  · rfl
theorem y_own_wt {T : CT} {o p : Nat} : (y_own T o p).wt = T.wt := by
  unfold y_own
  split
  · exact y_set_wt
  · rfl
theorem y_own_hg {T : CT} {o p : Nat} : (y_own T o p).hg = T.hg := by
  unfold y_own
  split
  · exact y_set_hg
  · rfl
theorem y_own_fl {T : CT} {o p : Nat} : (y_own T o p).fl = T.fl := by
  unfold y_own
  split
  · exact y_set_fl
  · rfl
theorem y_own_code {T : CT} {o p : Nat} : (y_own T o p).code = T.code := by
  unfold y_own
  split
  · exact y_set_code
  · rfl
theorem y_first_there {T T' : CT} {o c : Nat} (h : y_first T o c = some T') : T'.there = T.there := by
  unfold y_first at h
  split at h
  · cases h
  · split at h
    · cases h
      exact y_set_there
    · cases h
theorem y_first_home {T T' : CT} {o c : Nat} (h : y_first T o c = some T') : T'.home = T.home := by
  unfold y_first at h
  split at h
  · cases h
  · split at h
    · cases h
      exact y_set_home
    · cases h
theorem y_first_reg {T T' : CT} {o c : Nat} (h : y_first T o c = some T') : T'.reg = T.reg := by
  unfold y_first at h
  split at h
  · cases h
  · split at h
    · cases h
      exact y_set_reg
    · cases h
theorem y_first_last {T T' : CT} {o c : Nat} (h : y_first T o c = some T') : T'.last = T.last := by
  unfold y_first at h
  split at h
  · cases h
  · split at h
    · cases h
      exact y_set_last
    · cases h
theorem y_first_vs {T T' : CT} {o c : Nat} (h : y_first T o c = some T') : T'.vs = T.vs := by
  unfold y_first at h
  split at h
  · cases h
  · split at h
    · cases h
      exact y_set_vs
    · cases h
theorem y_first_num {T T' : CT} {o c : Nat} (h : y_first T o c = some T') : T'.num = T.num := by
  unfold y_first at h
  split at h
  · cases h
  · split at h
    · cases h
      exact y_set_num
    · cases h
theorem y_first_vote {T T' : CT} {o c : Nat} (h : y_first T o c = some T') : T'.vote = T.vote := by
  unfold y_first at h
  split at h
  · cases h
  · split at h
    · cases h
      exact y_set_vote
    · cases h
theorem y_first_mark {T T' : CT} {o c : Nat} (h : y_first T o c = some T') : T'.mark = T.mark := by
  unfold y_first at h
  split at h
  · cases h
  · split at h
    · cases h
      exact y_set_mark
    · cases h
theorem y_first_draft {T T' : CT} {o c : Nat} (h : y_first T o c = some T') : T'.draft = T.draft := by
  unfold y_first at h
  split at h
  · cases h
  · split at h
    · cases h
      exact y_set_draft
    · cases h
theorem y_first_up {T T' : CT} {o c : Nat} (h : y_first T o c = some T') : T'.up = T.up := by
  unfold y_first at h
  split at h
  · cases h
  · split at h
    · cases h
      exact y_set_up
    · cases h
theorem y_first_par {T T' : CT} {o c : Nat} (h : y_first T o c = some T') : T'.par = T.par := by
  unfold y_first at h
  split at h
  · cases h
  · split at h
    · cases h
      exact y_set_par
    · cases h
theorem y_first_ep {T T' : CT} {o c : Nat} (h : y_first T o c = some T') : T'.ep = T.ep := by
  unfold y_first at h
  split at h
  · cases h
  · split at h
    · cases h
      exact y_set_ep
    · cases h
theorem y_first_ow {T T' : CT} {o c : Nat} (h : y_first T o c = some T') : T'.ow = T.ow := by
  unfold y_first at h
  split at h
  · cases h
  · split at h
    · cases h
      exact y_set_ow
    · cases h
theorem y_first_tk {T T' : CT} {o c : Nat} (h : y_first T o c = some T') : T'.tk = T.tk := by
  unfold y_first at h
  split at h
  · cases h
  · split at h
    · cases h
      exact y_set_tk
    · cases h
theorem y_first_hg {T T' : CT} {o c : Nat} (h : y_first T o c = some T') : T'.hg = T.hg := by
  unfold y_first at h
  split at h
  · cases h
  · split at h
    · cases h
      exact y_set_hg
    · cases h
theorem y_first_fl {T T' : CT} {o c : Nat} (h : y_first T o c = some T') : T'.fl = T.fl := by
  unfold y_first at h
  split at h
  · cases h
  · split at h
    · cases h
      exact y_set_fl
    · cases h
theorem y_first_code {T T' : CT} {o c : Nat} (h : y_first T o c = some T') : T'.code = T.code := by
  unfold y_first at h
  split at h
  · cases h
  · split at h
    · cases h
      exact y_set_code
    · cases h
theorem y_own_ow {T : CT} {o p : Nat} : (y_own T o p).ow = ct2 T.ow o p (!(y_may T o p o)) := by
  unfold y_own
  split
  · rename_i h
    rw [y_set_ow, h]
    rfl
  · rename_i h
    rw [Bool.not_eq_true] at h
    rw [h]
    rfl
theorem y_first_wt {T T' : CT} {o c : Nat} (h : y_first T o c = some T') : ∃ x xs, T.wt c = x :: xs ∧ y_may T o x.1 c = true ∧ T'.wt = ct1 T.wt c xs ∧ T' = y_set (T.w_wt (ct1 T.wt c xs)) o x.1 x.2 (some c) := by
  unfold y_first at h
  split at h
  · cases h
  · rename_i x xs hx
    split at h
    · rename_i hm
      cases h
      exact ⟨x, xs, hx, hm, y_set_wt, rfl⟩
    · cases h
/-- what the inner functions keep -/
def JI (T : CT) : Prop := Bd T ∧ pot T ≤ 9000 ∧ ∀ o p, o < 12 → p < 40 → T.ow o p = true → 0 < T.last p
theorem JI.own {T : CT} (h : JI T) {o p : Nat} (ho : o < 12) (hp : p < 40) (hw : T.ow o p = true) : JI (y_own T o p) := by
  obtain ⟨hB, hP, hW⟩ := h
  have h1 := pot_own (T := T) ho hp
  have h2 := pot_ow (T := T) ho hp
  have h3 := pot_line (T := T) ho
  rw [hw] at h1 h2
  have e : bN true = 1 := rfl
  have hl : (T.line o).length < 9000 := by
    unfold pot at hP
    omega
  refine ⟨hB.own ho hp (hW o p ho hp hw) hl, by omega, fun a q ha hq hx => ?_⟩
  rw [y_own_last]
  rw [y_own_ow] at hx
  by_cases e : a = o ∧ q = p
  · obtain ⟨rfl, rfl⟩ := e
    exact hW a q ha hq hw
  · rw [ct2_n e] at hx
    exact hW a q ha hq hx
theorem JI.first {T T' : CT} (h : JI T) {o c : Nat} (ho : o < 12) (hc : c < 12) (hf : y_first T o c = some T') : JI T' := by
  obtain ⟨hB, hP, hW⟩ := h
  have f1 := y_first_ow hf
  have f2 := y_first_last hf
  obtain ⟨x, xs, hx, hm, hw, rfl⟩ := y_first_wt hf
  have h1 := potW_u (T := T) (o := c) (xs := xs) hc
  have h2 := pot_set (T := T.w_wt (ct1 T.wt c xs)) (o := o) (p := x.1) (v := x.2) (s := some c) ho
  have h3 := pot_line (T := T) ho
  have h4 := pot_wt (T := T) hc
  rw [hx] at h1 h4
  simp only [List.length_cons] at h1 h4
  have e1 : potL (T.w_wt (ct1 T.wt c xs)) = potL T := rfl
  have e2 : potO (T.w_wt (ct1 T.wt c xs)) = potO T := rfl
  have hxm := hB.wt c x hc (by rw [hx]; exact List.mem_cons_self)
  have hl : (T.line o).length < 9000 := by
    unfold pot at hP
    omega
  have hq := hB.wtN c hc
  rw [hx] at hq
  simp only [List.length_cons] at hq
  refine ⟨Bd.set (hB.w_wt (o := c) (xs := xs) (by omega) (fun y hy => hB.wt c y hc (by rw [hx]; exact List.mem_cons_of_mem _ hy))) ho hxm.1 hxm.2.2 (fun j z => by cases z; exact hc) ⟨fun z => by have := hxm.2.1; omega, fun z => by cases z⟩ hl, ?_, ?_⟩
  · unfold pot at h2 hP ⊢
    omega
  · rw [f1, f2]
    exact hW
/-- what waits at an office -/
def y_waits (T : CT) (o : Nat) : Nat := sN 40 (fun p => bN (T.ow o p)) + sN 12 (fun c => if T.par c = some o then (T.wt c).length else 0)
theorem waits_own {T : CT} {o p : Nat} (hp : p < 40) (hw : T.ow o p = true) : y_waits (y_own T o p) o + bN (y_may T o p o) = y_waits T o := by
  have h2 := sN_u (f := fun p => bN (T.ow o p)) (v := bN (!(y_may T o p o))) hp
  replace h2 : _ + bN (T.ow o p) = _ + bN (!(y_may T o p o)) := h2
  have e : sN 40 (fun q => bN ((y_own T o p).ow o q)) = sN 40 (ct1 (fun p => bN (T.ow o p)) p (bN (!(y_may T o p o)))) := by
    refine sN_c (fun q _ => ?_)
    rw [y_own_ow]
    by_cases e2 : q = p
    · subst e2
      rw [ct2_s, ct1_s]
    · rw [ct2_n (fun z => e2 z.2), ct1_n e2]
  unfold y_waits
  rw [e, y_own_par, y_own_wt]
  rw [hw] at h2
  have e1 : bN true = 1 := rfl
  have e0 : bN false = 0 := rfl
  have e2 : bN (!(y_may T o p o)) + bN (y_may T o p o) = 1 := by cases y_may T o p o <;> rfl
  omega
theorem waits_first {T T' : CT} {o c : Nat} (hc : c < 12) (hp : T.par c = some o) (hf : y_first T o c = some T') : y_waits T' o + 1 = y_waits T o := by
  have f1 := y_first_ow hf
  have f2 := y_first_par hf
  obtain ⟨x, xs, hx, hm, hw, _⟩ := y_first_wt hf
  have h2 := sN_u (f := fun c => if T.par c = some o then (T.wt c).length else 0) (v := xs.length) hc
  replace h2 : _ + (if T.par c = some o then (T.wt c).length else 0) = _ + xs.length := h2
  rw [if_pos hp, hx] at h2
  simp only [List.length_cons] at h2
  have e : sN 12 (fun c => if T'.par c = some o then (T'.wt c).length else 0) = sN 12 (ct1 (fun c => if T.par c = some o then (T.wt c).length else 0) c xs.length) := by
    refine sN_c (fun q _ => ?_)
    rw [f2, hw]
    by_cases e2 : q = c
    · subst e2
      rw [if_pos hp, ct1_s, ct1_s]
    · rw [ct1_n e2, ct1_n e2]
  unfold y_waits
  rw [e, f1]
  omega
/-- a round -/
def y_r1 (T : CT) (o : Nat) : Nat → CT × Bool
  | 0 => (T, false)
  | i + 1 => if (y_r1 T o i).1.ow o i = true then (y_own (y_r1 T o i).1 o i, (y_r1 T o i).2 || y_may (y_r1 T o i).1 o i o) else y_r1 T o i
def y_wh (o c : Nat) : Nat → CT → Bool → CT × Bool
  | 0, T, m => (T, m)
  | k + 1, T, m => match y_first T o c with
    | none => (T, m)
    | some T' => y_wh o c k T' true
def y_r2 (R : CT × Bool) (o : Nat) : Nat → CT × Bool
  | 0 => R
  | i + 1 => if (y_r2 R o i).1.par i = some o then y_wh o i ((y_r2 R o i).1.wt i).length (y_r2 R o i).1 (y_r2 R o i).2 else y_r2 R o i
def y_rd (T : CT) (o : Nat) : CT × Bool := y_r2 (y_r1 T o 40) o 12
def y_all (o : Nat) : Nat → CT → CT
  | 0, T => T
  | k + 1, T => if (y_rd T o).2 = true then y_all o k (y_rd T o).1 else (y_rd T o).1
def y_try (T : CT) (o : Nat) : CT := y_all o (y_waits T o + 1) T
theorem r1_J {T : CT} {o : Nat} (h : JI T) (ho : o < 12) : ∀ i, i ≤ 40 → JI (y_r1 T o i).1 ∧ y_waits (y_r1 T o i).1 o + bN (y_r1 T o i).2 ≤ y_waits T o ∧ (y_r1 T o i).1.par = T.par
  | 0, _ => ⟨h, Nat.le_refl _, rfl⟩
  | i + 1, hi => by
    obtain ⟨h1, h2, h3⟩ := r1_J h ho i (by omega)
    unfold y_r1
    split
    · rename_i hw
      refine ⟨h1.own ho (by omega) hw, ?_, by rw [y_own_par]; exact h3⟩
      have := waits_own (T := (y_r1 T o i).1) (o := o) (p := i) (by omega) hw
      have e1 : bN true = 1 := rfl
      have e0 : bN false = 0 := rfl
      show y_waits (y_own (y_r1 T o i).1 o i) o + bN ((y_r1 T o i).2 || y_may (y_r1 T o i).1 o i o) ≤ _
      cases hb : (y_r1 T o i).2 <;> cases hm : y_may (y_r1 T o i).1 o i o <;> rw [hb] at h2 <;> rw [hm] at this <;> simp only [Bool.or_true, Bool.or_false] <;> omega
    · exact ⟨h1, h2, h3⟩
theorem wh_J {o c : Nat} (ho : o < 12) (hc : c < 12) : ∀ (k : Nat) (T : CT) (m : Bool), JI T → T.par c = some o → JI (y_wh o c k T m).1 ∧ y_waits (y_wh o c k T m).1 o + bN (y_wh o c k T m).2 ≤ y_waits T o + bN m ∧ (y_wh o c k T m).1.par = T.par
  | 0, T, m, h, _ => ⟨h, Nat.le_refl _, rfl⟩
  | k + 1, T, m, h, hp => by
    unfold y_wh
    split
    · exact ⟨h, Nat.le_refl _, rfl⟩
    · rename_i T' hf
      have f := y_first_par hf
      obtain ⟨a, b, d⟩ := wh_J ho hc k T' true (h.first ho hc hf) (by rw [f]; exact hp)
      have := waits_first hc hp hf
      have e1 : bN true = 1 := rfl
      exact ⟨a, by omega, d.trans f⟩
theorem r2_J {R : CT × Bool} {o : Nat} (h : JI R.1) (ho : o < 12) : ∀ i, i ≤ 12 → JI (y_r2 R o i).1 ∧ y_waits (y_r2 R o i).1 o + bN (y_r2 R o i).2 ≤ y_waits R.1 o + bN R.2 ∧ (y_r2 R o i).1.par = R.1.par
  | 0, _ => ⟨h, Nat.le_refl _, rfl⟩
  | i + 1, hi => by
    obtain ⟨h1, h2, h3⟩ := r2_J h ho i (by omega)
    unfold y_r2
    split
    · rename_i hp
      obtain ⟨a, b, d⟩ := wh_J ho (by omega) ((y_r2 R o i).1.wt i).length (y_r2 R o i).1 (y_r2 R o i).2 h1 hp
      exact ⟨a, Nat.le_trans b h2, d.trans h3⟩
    · exact ⟨h1, h2, h3⟩
theorem rd_J {T : CT} {o : Nat} (h : JI T) (ho : o < 12) : JI (y_rd T o).1 ∧ y_waits (y_rd T o).1 o + bN (y_rd T o).2 ≤ y_waits T o ∧ (y_rd T o).1.par = T.par := by
  obtain ⟨a, b, d⟩ := r1_J h ho 40 (Nat.le_refl _)
  obtain ⟨a2, b2, d2⟩ := r2_J a ho 12 (Nat.le_refl _)
  exact ⟨a2, Nat.le_trans b2 b, d2.trans d⟩
theorem all_J {o : Nat} (ho : o < 12) : ∀ (k : Nat) (T : CT), JI T → JI (y_all o k T) ∧ (y_all o k T).par = T.par
  | 0, T, h => ⟨h, rfl⟩
  | k + 1, T, h => by
    obtain ⟨a, b, d⟩ := rd_J h ho
    unfold y_all
    split
    · obtain ⟨a2, d2⟩ := all_J ho k (y_rd T o).1 a
      exact ⟨a2, d2.trans d⟩
    · exact ⟨a, d⟩
/-- with enough rounds left, one more changes nothing -/
theorem all_more {o : Nat} (ho : o < 12) : ∀ (k : Nat) (T : CT), JI T → y_waits T o < k → y_all o (k + 1) T = y_all o k T
  | 0, T, h, hk => by omega
  | k + 1, T, h, hk => by
    obtain ⟨a, b, d⟩ := rd_J h ho
    show (if (y_rd T o).2 = true then y_all o (k + 1) (y_rd T o).1 else (y_rd T o).1) = (if (y_rd T o).2 = true then y_all o k (y_rd T o).1 else (y_rd T o).1)
    split
    · rename_i hm
      rw [hm] at b
      have e1 : bN true = 1 := rfl
      exact all_more ho k _ a (by omega)
    · rfl
theorem all_stab {o : Nat} (ho : o < 12) {k : Nat} {T : CT} (h : JI T) (hk : y_waits T o < k) : ∀ j, y_all o (k + j) T = y_all o k T
  | 0 => rfl
  | j + 1 => by
    rw [← all_stab ho h hk j]
    exact all_more ho (k + j) T h (by omega)
theorem try_eq {o : Nat} (ho : o < 12) {k : Nat} {T : CT} (h : JI T) (hk : y_waits T o < k) : y_all o k T = y_try T o := by
  have := all_stab ho (k := y_waits T o + 1) h (by omega) (k - (y_waits T o + 1))
  rw [show y_waits T o + 1 + (k - (y_waits T o + 1)) = k from by omega] at this
  exact this
theorem try_step {o : Nat} (ho : o < 12) {T : CT} (h : JI T) : y_try T o = if (y_rd T o).2 = true then y_try (y_rd T o).1 o else (y_rd T o).1 := by
  obtain ⟨a, b, d⟩ := rd_J h ho
  show (if (y_rd T o).2 = true then y_all o (y_waits T o) (y_rd T o).1 else (y_rd T o).1) = _
  split
  · rename_i hm
    rw [hm] at b
    have e1 : bN true = 1 := rfl
    exact try_eq ho a (by omega)
  · rfl
