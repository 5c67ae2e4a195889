/-! The mathematical state of a count, that both sides are tied to, and how the reference shows it. Printed by wip/whole/st.py -/
abbrev CTp : Type := (Nat → Bool) × (Nat → Nat) × (Nat → Int32) × (Nat → Nat) × (Nat) × (Nat → Int32) × (Nat → Nat → Int32) × (Nat → Int32) × (Nat → Int32) × (Nat → Bool) × (Nat → Option Nat) × (Nat → Int32) × (Nat → Nat → Nat) × (Nat → Nat → Option Nat) × (Nat → Nat → Bool) × (Nat → List (Nat × Nat)) × (Nat → Nat) × (Nat → List (Nat × Nat)) × (List (Nat × Int32 × Nat × Nat × Nat)) × (Nat) × (Nat) × (Int32)
/-- an Option, so that no two states are compared part by part -/
abbrev CT : Type := Option CTp
def CT.there (T : CT) : Nat → Bool := match T with
  | some t => t.1
  | none => fun _ => false
def CT.home (T : CT) : Nat → Nat := match T with
  | some t => t.2.1
  | none => fun _ => 0
def CT.reg (T : CT) : Nat → Int32 := match T with
  | some t => t.2.2.1
  | none => fun _ => 0
def CT.last (T : CT) : Nat → Nat := match T with
  | some t => t.2.2.2.1
  | none => fun _ => 0
def CT.vs (T : CT) : Nat := match T with
  | some t => t.2.2.2.2.1
  | none => 0
def CT.num (T : CT) : Nat → Int32 := match T with
  | some t => t.2.2.2.2.2.1
  | none => fun _ => 0
def CT.vote (T : CT) : Nat → Nat → Int32 := match T with
  | some t => t.2.2.2.2.2.2.1
  | none => fun _ _ => 0
def CT.mark (T : CT) : Nat → Int32 := match T with
  | some t => t.2.2.2.2.2.2.2.1
  | none => fun _ => 0
def CT.draft (T : CT) : Nat → Int32 := match T with
  | some t => t.2.2.2.2.2.2.2.2.1
  | none => fun _ => 0
def CT.up (T : CT) : Nat → Bool := match T with
  | some t => t.2.2.2.2.2.2.2.2.2.1
  | none => fun _ => false
def CT.par (T : CT) : Nat → Option Nat := match T with
  | some t => t.2.2.2.2.2.2.2.2.2.2.1
  | none => fun _ => none
def CT.ep (T : CT) : Nat → Int32 := match T with
  | some t => t.2.2.2.2.2.2.2.2.2.2.2.1
  | none => fun _ => 0
def CT.shown (T : CT) : Nat → Nat → Nat := match T with
  | some t => t.2.2.2.2.2.2.2.2.2.2.2.2.1
  | none => fun _ _ => 0
def CT.src (T : CT) : Nat → Nat → Option Nat := match T with
  | some t => t.2.2.2.2.2.2.2.2.2.2.2.2.2.1
  | none => fun _ _ => none
def CT.ow (T : CT) : Nat → Nat → Bool := match T with
  | some t => t.2.2.2.2.2.2.2.2.2.2.2.2.2.2.1
  | none => fun _ _ => false
def CT.line (T : CT) : Nat → List (Nat × Nat) := match T with
  | some t => t.2.2.2.2.2.2.2.2.2.2.2.2.2.2.2.1
  | none => fun _ => []
def CT.tk (T : CT) : Nat → Nat := match T with
  | some t => t.2.2.2.2.2.2.2.2.2.2.2.2.2.2.2.2.1
  | none => fun _ => 0
def CT.wt (T : CT) : Nat → List (Nat × Nat) := match T with
  | some t => t.2.2.2.2.2.2.2.2.2.2.2.2.2.2.2.2.2.1
  | none => fun _ => []
def CT.post (T : CT) : List (Nat × Int32 × Nat × Nat × Nat) := match T with
  | some t => t.2.2.2.2.2.2.2.2.2.2.2.2.2.2.2.2.2.2.1
  | none => []
def CT.hg (T : CT) : Nat := match T with
  | some t => t.2.2.2.2.2.2.2.2.2.2.2.2.2.2.2.2.2.2.2.1
  | none => 0
def CT.fl (T : CT) : Nat := match T with
  | some t => t.2.2.2.2.2.2.2.2.2.2.2.2.2.2.2.2.2.2.2.2.1
  | none => 0
def CT.code (T : CT) : Int32 := match T with
  | some t => t.2.2.2.2.2.2.2.2.2.2.2.2.2.2.2.2.2.2.2.2.2
  | none => 0
def CT.w_there (T : CT) (z : Nat → Bool) : CT := some (z, T.home, T.reg, T.last, T.vs, T.num, T.vote, T.mark, T.draft, T.up, T.par, T.ep, T.shown, T.src, T.ow, T.line, T.tk, T.wt, T.post, T.hg, T.fl, T.code)
def CT.w_home (T : CT) (z : Nat → Nat) : CT := some (T.there, z, T.reg, T.last, T.vs, T.num, T.vote, T.mark, T.draft, T.up, T.par, T.ep, T.shown, T.src, T.ow, T.line, T.tk, T.wt, T.post, T.hg, T.fl, T.code)
def CT.w_reg (T : CT) (z : Nat → Int32) : CT := some (T.there, T.home, z, T.last, T.vs, T.num, T.vote, T.mark, T.draft, T.up, T.par, T.ep, T.shown, T.src, T.ow, T.line, T.tk, T.wt, T.post, T.hg, T.fl, T.code)
def CT.w_last (T : CT) (z : Nat → Nat) : CT := some (T.there, T.home, T.reg, z, T.vs, T.num, T.vote, T.mark, T.draft, T.up, T.par, T.ep, T.shown, T.src, T.ow, T.line, T.tk, T.wt, T.post, T.hg, T.fl, T.code)
def CT.w_vs (T : CT) (z : Nat) : CT := some (T.there, T.home, T.reg, T.last, z, T.num, T.vote, T.mark, T.draft, T.up, T.par, T.ep, T.shown, T.src, T.ow, T.line, T.tk, T.wt, T.post, T.hg, T.fl, T.code)
def CT.w_num (T : CT) (z : Nat → Int32) : CT := some (T.there, T.home, T.reg, T.last, T.vs, z, T.vote, T.mark, T.draft, T.up, T.par, T.ep, T.shown, T.src, T.ow, T.line, T.tk, T.wt, T.post, T.hg, T.fl, T.code)
def CT.w_vote (T : CT) (z : Nat → Nat → Int32) : CT := some (T.there, T.home, T.reg, T.last, T.vs, T.num, z, T.mark, T.draft, T.up, T.par, T.ep, T.shown, T.src, T.ow, T.line, T.tk, T.wt, T.post, T.hg, T.fl, T.code)
def CT.w_mark (T : CT) (z : Nat → Int32) : CT := some (T.there, T.home, T.reg, T.last, T.vs, T.num, T.vote, z, T.draft, T.up, T.par, T.ep, T.shown, T.src, T.ow, T.line, T.tk, T.wt, T.post, T.hg, T.fl, T.code)
def CT.w_draft (T : CT) (z : Nat → Int32) : CT := some (T.there, T.home, T.reg, T.last, T.vs, T.num, T.vote, T.mark, z, T.up, T.par, T.ep, T.shown, T.src, T.ow, T.line, T.tk, T.wt, T.post, T.hg, T.fl, T.code)
def CT.w_up (T : CT) (z : Nat → Bool) : CT := some (T.there, T.home, T.reg, T.last, T.vs, T.num, T.vote, T.mark, T.draft, z, T.par, T.ep, T.shown, T.src, T.ow, T.line, T.tk, T.wt, T.post, T.hg, T.fl, T.code)
def CT.w_par (T : CT) (z : Nat → Option Nat) : CT := some (T.there, T.home, T.reg, T.last, T.vs, T.num, T.vote, T.mark, T.draft, T.up, z, T.ep, T.shown, T.src, T.ow, T.line, T.tk, T.wt, T.post, T.hg, T.fl, T.code)
def CT.w_ep (T : CT) (z : Nat → Int32) : CT := some (T.there, T.home, T.reg, T.last, T.vs, T.num, T.vote, T.mark, T.draft, T.up, T.par, z, T.shown, T.src, T.ow, T.line, T.tk, T.wt, T.post, T.hg, T.fl, T.code)
def CT.w_shown (T : CT) (z : Nat → Nat → Nat) : CT := some (T.there, T.home, T.reg, T.last, T.vs, T.num, T.vote, T.mark, T.draft, T.up, T.par, T.ep, z, T.src, T.ow, T.line, T.tk, T.wt, T.post, T.hg, T.fl, T.code)
def CT.w_src (T : CT) (z : Nat → Nat → Option Nat) : CT := some (T.there, T.home, T.reg, T.last, T.vs, T.num, T.vote, T.mark, T.draft, T.up, T.par, T.ep, T.shown, z, T.ow, T.line, T.tk, T.wt, T.post, T.hg, T.fl, T.code)
def CT.w_ow (T : CT) (z : Nat → Nat → Bool) : CT := some (T.there, T.home, T.reg, T.last, T.vs, T.num, T.vote, T.mark, T.draft, T.up, T.par, T.ep, T.shown, T.src, z, T.line, T.tk, T.wt, T.post, T.hg, T.fl, T.code)
def CT.w_line (T : CT) (z : Nat → List (Nat × Nat)) : CT := some (T.there, T.home, T.reg, T.last, T.vs, T.num, T.vote, T.mark, T.draft, T.up, T.par, T.ep, T.shown, T.src, T.ow, z, T.tk, T.wt, T.post, T.hg, T.fl, T.code)
def CT.w_tk (T : CT) (z : Nat → Nat) : CT := some (T.there, T.home, T.reg, T.last, T.vs, T.num, T.vote, T.mark, T.draft, T.up, T.par, T.ep, T.shown, T.src, T.ow, T.line, z, T.wt, T.post, T.hg, T.fl, T.code)
def CT.w_wt (T : CT) (z : Nat → List (Nat × Nat)) : CT := some (T.there, T.home, T.reg, T.last, T.vs, T.num, T.vote, T.mark, T.draft, T.up, T.par, T.ep, T.shown, T.src, T.ow, T.line, T.tk, z, T.post, T.hg, T.fl, T.code)
def CT.w_post (T : CT) (z : List (Nat × Int32 × Nat × Nat × Nat)) : CT := some (T.there, T.home, T.reg, T.last, T.vs, T.num, T.vote, T.mark, T.draft, T.up, T.par, T.ep, T.shown, T.src, T.ow, T.line, T.tk, T.wt, z, T.hg, T.fl, T.code)
def CT.w_hg (T : CT) (z : Nat) : CT := some (T.there, T.home, T.reg, T.last, T.vs, T.num, T.vote, T.mark, T.draft, T.up, T.par, T.ep, T.shown, T.src, T.ow, T.line, T.tk, T.wt, T.post, z, T.fl, T.code)
def CT.w_fl (T : CT) (z : Nat) : CT := some (T.there, T.home, T.reg, T.last, T.vs, T.num, T.vote, T.mark, T.draft, T.up, T.par, T.ep, T.shown, T.src, T.ow, T.line, T.tk, T.wt, T.post, T.hg, z, T.code)
def CT.w_code (T : CT) (z : Int32) : CT := some (T.there, T.home, T.reg, T.last, T.vs, T.num, T.vote, T.mark, T.draft, T.up, T.par, T.ep, T.shown, T.src, T.ow, T.line, T.tk, T.wt, T.post, T.hg, T.fl, z)
theorem cw_there (T : CT) (z : Nat → Bool) : (T.w_there z).there = z ∧ (T.w_there z).home = T.home ∧ (T.w_there z).reg = T.reg ∧ (T.w_there z).last = T.last ∧ (T.w_there z).vs = T.vs ∧ (T.w_there z).num = T.num ∧ (T.w_there z).vote = T.vote ∧ (T.w_there z).mark = T.mark ∧ (T.w_there z).draft = T.draft ∧ (T.w_there z).up = T.up ∧ (T.w_there z).par = T.par ∧ (T.w_there z).ep = T.ep ∧ (T.w_there z).shown = T.shown ∧ (T.w_there z).src = T.src ∧ (T.w_there z).ow = T.ow ∧ (T.w_there z).line = T.line ∧ (T.w_there z).tk = T.tk ∧ (T.w_there z).wt = T.wt ∧ (T.w_there z).post = T.post ∧ (T.w_there z).hg = T.hg ∧ (T.w_there z).fl = T.fl ∧ (T.w_there z).code = T.code := ⟨rfl, rfl, rfl, rfl, rfl, rfl, rfl, rfl, rfl, rfl, rfl, rfl, rfl, rfl, rfl, rfl, rfl, rfl, rfl, rfl, rfl, rfl⟩
theorem cw_home (T : CT) (z : Nat → Nat) : (T.w_home z).there = T.there ∧ (T.w_home z).home = z ∧ (T.w_home z).reg = T.reg ∧ (T.w_home z).last = T.last ∧ (T.w_home z).vs = T.vs ∧ (T.w_home z).num = T.num ∧ (T.w_home z).vote = T.vote ∧ (T.w_home z).mark = T.mark ∧ (T.w_home z).draft = T.draft ∧ (T.w_home z).up = T.up ∧ (T.w_home z).par = T.par ∧ (T.w_home z).ep = T.ep ∧ (T.w_home z).shown = T.shown ∧ (T.w_home z).src = T.src ∧ (T.w_home z).ow = T.ow ∧ (T.w_home z).line = T.line ∧ (T.w_home z).tk = T.tk ∧ (T.w_home z).wt = T.wt ∧ (T.w_home z).post = T.post ∧ (T.w_home z).hg = T.hg ∧ (T.w_home z).fl = T.fl ∧ (T.w_home z).code = T.code := ⟨rfl, rfl, rfl, rfl, rfl, rfl, rfl, rfl, rfl, rfl, rfl, rfl, rfl, rfl, rfl, rfl, rfl, rfl, rfl, rfl, rfl, rfl⟩
theorem cw_reg (T : CT) (z : Nat → Int32) : (T.w_reg z).there = T.there ∧ (T.w_reg z).home = T.home ∧ (T.w_reg z).reg = z ∧ (T.w_reg z).last = T.last ∧ (T.w_reg z).vs = T.vs ∧ (T.w_reg z).num = T.num ∧ (T.w_reg z).vote = T.vote ∧ (T.w_reg z).mark = T.mark ∧ (T.w_reg z).draft = T.draft ∧ (T.w_reg z).up = T.up ∧ (T.w_reg z).par = T.par ∧ (T.w_reg z).ep = T.ep ∧ (T.w_reg z).shown = T.shown ∧ (T.w_reg z).src = T.src ∧ (T.w_reg z).ow = T.ow ∧ (T.w_reg z).line = T.line ∧ (T.w_reg z).tk = T.tk ∧ (T.w_reg z).wt = T.wt ∧ (T.w_reg z).post = T.post ∧ (T.w_reg z).hg = T.hg ∧ (T.w_reg z).fl = T.fl ∧ (T.w_reg z).code = T.code := ⟨rfl, rfl, rfl, rfl, rfl, rfl, rfl, rfl, rfl, rfl, rfl, rfl, rfl, rfl, rfl, rfl, rfl, rfl, rfl, rfl, rfl, rfl⟩
theorem cw_last (T : CT) (z : Nat → Nat) : (T.w_last z).there = T.there ∧ (T.w_last z).home = T.home ∧ (T.w_last z).reg = T.reg ∧ (T.w_last z).last = z ∧ (T.w_last z).vs = T.vs ∧ (T.w_last z).num = T.num ∧ (T.w_last z).vote = T.vote ∧ (T.w_last z).mark = T.mark ∧ (T.w_last z).draft = T.draft ∧ (T.w_last z).up = T.up ∧ (T.w_last z).par = T.par ∧ (T.w_last z).ep = T.ep ∧ (T.w_last z).shown = T.shown ∧ (T.w_last z).src = T.src ∧ (T.w_last z).ow = T.ow ∧ (T.w_last z).line = T.line ∧ (T.w_last z).tk = T.tk ∧ (T.w_last z).wt = T.wt ∧ (T.w_last z).post = T.post ∧ (T.w_last z).hg = T.hg ∧ (T.w_last z).fl = T.fl ∧ (T.w_last z).code = T.code := ⟨rfl, rfl, rfl, rfl, rfl, rfl, rfl, rfl, rfl, rfl, rfl, rfl, rfl, rfl, rfl, rfl, rfl, rfl, rfl, rfl, rfl, rfl⟩
theorem cw_vs (T : CT) (z : Nat) : (T.w_vs z).there = T.there ∧ (T.w_vs z).home = T.home ∧ (T.w_vs z).reg = T.reg ∧ (T.w_vs z).last = T.last ∧ (T.w_vs z).vs = z ∧ (T.w_vs z).num = T.num ∧ (T.w_vs z).vote = T.vote ∧ (T.w_vs z).mark = T.mark ∧ (T.w_vs z).draft = T.draft ∧ (T.w_vs z).up = T.up ∧ (T.w_vs z).par = T.par ∧ (T.w_vs z).ep = T.ep ∧ (T.w_vs z).shown = T.shown ∧ (T.w_vs z).src = T.src ∧ (T.w_vs z).ow = T.ow ∧ (T.w_vs z).line = T.line ∧ (T.w_vs z).tk = T.tk ∧ (T.w_vs z).wt = T.wt ∧ (T.w_vs z).post = T.post ∧ (T.w_vs z).hg = T.hg ∧ (T.w_vs z).fl = T.fl ∧ (T.w_vs z).code = T.code := ⟨rfl, rfl, rfl, rfl, rfl, rfl, rfl, rfl, rfl, rfl, rfl, rfl, rfl, rfl, rfl, rfl, rfl, rfl, rfl, rfl, rfl, rfl⟩
theorem cw_num (T : CT) (z : Nat → Int32) : (T.w_num z).there = T.there ∧ (T.w_num z).home = T.home ∧ (T.w_num z).reg = T.reg ∧ (T.w_num z).last = T.last ∧ (T.w_num z).vs = T.vs ∧ (T.w_num z).num = z ∧ (T.w_num z).vote = T.vote ∧ (T.w_num z).mark = T.mark ∧ (T.w_num z).draft = T.draft ∧ (T.w_num z).up = T.up ∧ (T.w_num z).par = T.par ∧ (T.w_num z).ep = T.ep ∧ (T.w_num z).shown = T.shown ∧ (T.w_num z).src = T.src ∧ (T.w_num z).ow = T.ow ∧ (T.w_num z).line = T.line ∧ (T.w_num z).tk = T.tk ∧ (T.w_num z).wt = T.wt ∧ (T.w_num z).post = T.post ∧ (T.w_num z).hg = T.hg ∧ (T.w_num z).fl = T.fl ∧ (T.w_num z).code = T.code := ⟨rfl, rfl, rfl, rfl, rfl, rfl, rfl, rfl, rfl, rfl, rfl, rfl, rfl, rfl, rfl, rfl, rfl, rfl, rfl, rfl, rfl, rfl⟩
theorem cw_vote (T : CT) (z : Nat → Nat → Int32) : (T.w_vote z).there = T.there ∧ (T.w_vote z).home = T.home ∧ (T.w_vote z).reg = T.reg ∧ (T.w_vote z).last = T.last ∧ (T.w_vote z).vs = T.vs ∧ (T.w_vote z).num = T.num ∧ (T.w_vote z).vote = z ∧ (T.w_vote z).mark = T.mark ∧ (T.w_vote z).draft = T.draft ∧ (T.w_vote z).up = T.up ∧ (T.w_vote z).par = T.par ∧ (T.w_vote z).ep = T.ep ∧ (T.w_vote z).shown = T.shown ∧ (T.w_vote z).src = T.src ∧ (T.w_vote z).ow = T.ow ∧ (T.w_vote z).line = T.line ∧ (T.w_vote z).tk = T.tk ∧ (T.w_vote z).wt = T.wt ∧ (T.w_vote z).post = T.post ∧ (T.w_vote z).hg = T.hg ∧ (T.w_vote z).fl = T.fl ∧ (T.w_vote z).code = T.code := ⟨rfl, rfl, rfl, rfl, rfl, rfl, rfl, rfl, rfl, rfl, rfl, rfl, rfl, rfl, rfl, rfl, rfl, rfl, rfl, rfl, rfl, rfl⟩
theorem cw_mark (T : CT) (z : Nat → Int32) : (T.w_mark z).there = T.there ∧ (T.w_mark z).home = T.home ∧ (T.w_mark z).reg = T.reg ∧ (T.w_mark z).last = T.last ∧ (T.w_mark z).vs = T.vs ∧ (T.w_mark z).num = T.num ∧ (T.w_mark z).vote = T.vote ∧ (T.w_mark z).mark = z ∧ (T.w_mark z).draft = T.draft ∧ (T.w_mark z).up = T.up ∧ (T.w_mark z).par = T.par ∧ (T.w_mark z).ep = T.ep ∧ (T.w_mark z).shown = T.shown ∧ (T.w_mark z).src = T.src ∧ (T.w_mark z).ow = T.ow ∧ (T.w_mark z).line = T.line ∧ (T.w_mark z).tk = T.tk ∧ (T.w_mark z).wt = T.wt ∧ (T.w_mark z).post = T.post ∧ (T.w_mark z).hg = T.hg ∧ (T.w_mark z).fl = T.fl ∧ (T.w_mark z).code = T.code := ⟨rfl, rfl, rfl, rfl, rfl, rfl, rfl, rfl, rfl, rfl, rfl, rfl, rfl, rfl, rfl, rfl, rfl, rfl, rfl, rfl, rfl, rfl⟩
theorem cw_draft (T : CT) (z : Nat → Int32) : (T.w_draft z).there = T.there ∧ (T.w_draft z).home = T.home ∧ (T.w_draft z).reg = T.reg ∧ (T.w_draft z).last = T.last ∧ (T.w_draft z).vs = T.vs ∧ (T.w_draft z).num = T.num ∧ (T.w_draft z).vote = T.vote ∧ (T.w_draft z).mark = T.mark ∧ (T.w_draft z).draft = z ∧ (T.w_draft z).up = T.up ∧ (T.w_draft z).par = T.par ∧ (T.w_draft z).ep = T.ep ∧ (T.w_draft z).shown = T.shown ∧ (T.w_draft z).src = T.src ∧ (T.w_draft z).ow = T.ow ∧ (T.w_draft z).line = T.line ∧ (T.w_draft z).tk = T.tk ∧ (T.w_draft z).wt = T.wt ∧ (T.w_draft z).post = T.post ∧ (T.w_draft z).hg = T.hg ∧ (T.w_draft z).fl = T.fl ∧ (T.w_draft z).code = T.code := ⟨rfl, rfl, rfl, rfl, rfl, rfl, rfl, rfl, rfl, rfl, rfl, rfl, rfl, rfl, rfl, rfl, rfl, rfl, rfl, rfl, rfl, rfl⟩
theorem cw_up (T : CT) (z : Nat → Bool) : (T.w_up z).there = T.there ∧ (T.w_up z).home = T.home ∧ (T.w_up z).reg = T.reg ∧ (T.w_up z).last = T.last ∧ (T.w_up z).vs = T.vs ∧ (T.w_up z).num = T.num ∧ (T.w_up z).vote = T.vote ∧ (T.w_up z).mark = T.mark ∧ (T.w_up z).draft = T.draft ∧ (T.w_up z).up = z ∧ (T.w_up z).par = T.par ∧ (T.w_up z).ep = T.ep ∧ (T.w_up z).shown = T.shown ∧ (T.w_up z).src = T.src ∧ (T.w_up z).ow = T.ow ∧ (T.w_up z).line = T.line ∧ (T.w_up z).tk = T.tk ∧ (T.w_up z).wt = T.wt ∧ (T.w_up z).post = T.post ∧ (T.w_up z).hg = T.hg ∧ (T.w_up z).fl = T.fl ∧ (T.w_up z).code = T.code := ⟨rfl, rfl, rfl, rfl, rfl, rfl, rfl, rfl, rfl, rfl, rfl, rfl, rfl, rfl, rfl, rfl, rfl, rfl, rfl, rfl, rfl, rfl⟩
theorem cw_par (T : CT) (z : Nat → Option Nat) : (T.w_par z).there = T.there ∧ (T.w_par z).home = T.home ∧ (T.w_par z).reg = T.reg ∧ (T.w_par z).last = T.last ∧ (T.w_par z).vs = T.vs ∧ (T.w_par z).num = T.num ∧ (T.w_par z).vote = T.vote ∧ (T.w_par z).mark = T.mark ∧ (T.w_par z).draft = T.draft ∧ (T.w_par z).up = T.up ∧ (T.w_par z).par = z ∧ (T.w_par z).ep = T.ep ∧ (T.w_par z).shown = T.shown ∧ (T.w_par z).src = T.src ∧ (T.w_par z).ow = T.ow ∧ (T.w_par z).line = T.line ∧ (T.w_par z).tk = T.tk ∧ (T.w_par z).wt = T.wt ∧ (T.w_par z).post = T.post ∧ (T.w_par z).hg = T.hg ∧ (T.w_par z).fl = T.fl ∧ (T.w_par z).code = T.code := ⟨rfl, rfl, rfl, rfl, rfl, rfl, rfl, rfl, rfl, rfl, rfl, rfl, rfl, rfl, rfl, rfl, rfl, rfl, rfl, rfl, rfl, rfl⟩
theorem cw_ep (T : CT) (z : Nat → Int32) : (T.w_ep z).there = T.there ∧ (T.w_ep z).home = T.home ∧ (T.w_ep z).reg = T.reg ∧ (T.w_ep z).last = T.last ∧ (T.w_ep z).vs = T.vs ∧ (T.w_ep z).num = T.num ∧ (T.w_ep z).vote = T.vote ∧ (T.w_ep z).mark = T.mark ∧ (T.w_ep z).draft = T.draft ∧ (T.w_ep z).up = T.up ∧ (T.w_ep z).par = T.par ∧ (T.w_ep z).ep = z ∧ (T.w_ep z).shown = T.shown ∧ (T.w_ep z).src = T.src ∧ (T.w_ep z).ow = T.ow ∧ (T.w_ep z).line = T.line ∧ (T.w_ep z).tk = T.tk ∧ (T.w_ep z).wt = T.wt ∧ (T.w_ep z).post = T.post ∧ (T.w_ep z).hg = T.hg ∧ (T.w_ep z).fl = T.fl ∧ (T.w_ep z).code = T.code := ⟨rfl, rfl, rfl, rfl, rfl, rfl, rfl, rfl, rfl, rfl, rfl, rfl, rfl, rfl, rfl, rfl, rfl, rfl, rfl, rfl, rfl, rfl⟩
theorem cw_shown (T : CT) (z : Nat → Nat → Nat) : (T.w_shown z).there = T.there ∧ (T.w_shown z).home = T.home ∧ (T.w_shown z).reg = T.reg ∧ (T.w_shown z).last = T.last ∧ (T.w_shown z).vs = T.vs ∧ (T.w_shown z).num = T.num ∧ (T.w_shown z).vote = T.vote ∧ (T.w_shown z).mark = T.mark ∧ (T.w_shown z).draft = T.draft ∧ (T.w_shown z).up = T.up ∧ (T.w_shown z).par = T.par ∧ (T.w_shown z).ep = T.ep ∧ (T.w_shown z).shown = z ∧ (T.w_shown z).src = T.src ∧ (T.w_shown z).ow = T.ow ∧ (T.w_shown z).line = T.line ∧ (T.w_shown z).tk = T.tk ∧ (T.w_shown z).wt = T.wt ∧ (T.w_shown z).post = T.post ∧ (T.w_shown z).hg = T.hg ∧ (T.w_shown z).fl = T.fl ∧ (T.w_shown z).code = T.code := ⟨rfl, rfl, rfl, rfl, rfl, rfl, rfl, rfl, rfl, rfl, rfl, rfl, rfl, rfl, rfl, rfl, rfl, rfl, rfl, rfl, rfl, rfl⟩
theorem cw_src (T : CT) (z : Nat → Nat → Option Nat) : (T.w_src z).there = T.there ∧ (T.w_src z).home = T.home ∧ (T.w_src z).reg = T.reg ∧ (T.w_src z).last = T.last ∧ (T.w_src z).vs = T.vs ∧ (T.w_src z).num = T.num ∧ (T.w_src z).vote = T.vote ∧ (T.w_src z).mark = T.mark ∧ (T.w_src z).draft = T.draft ∧ (T.w_src z).up = T.up ∧ (T.w_src z).par = T.par ∧ (T.w_src z).ep = T.ep ∧ (T.w_src z).shown = T.shown ∧ (T.w_src z).src = z ∧ (T.w_src z).ow = T.ow ∧ (T.w_src z).line = T.line ∧ (T.w_src z).tk = T.tk ∧ (T.w_src z).wt = T.wt ∧ (T.w_src z).post = T.post ∧ (T.w_src z).hg = T.hg ∧ (T.w_src z).fl = T.fl ∧ (T.w_src z).code = T.code := ⟨rfl, rfl, rfl, rfl, rfl, rfl, rfl, rfl, rfl, rfl, rfl, rfl, rfl, rfl, rfl, rfl, rfl, rfl, rfl, rfl, rfl, rfl⟩
theorem cw_ow (T : CT) (z : Nat → Nat → Bool) : (T.w_ow z).there = T.there ∧ (T.w_ow z).home = T.home ∧ (T.w_ow z).reg = T.reg ∧ (T.w_ow z).last = T.last ∧ (T.w_ow z).vs = T.vs ∧ (T.w_ow z).num = T.num ∧ (T.w_ow z).vote = T.vote ∧ (T.w_ow z).mark = T.mark ∧ (T.w_ow z).draft = T.draft ∧ (T.w_ow z).up = T.up ∧ (T.w_ow z).par = T.par ∧ (T.w_ow z).ep = T.ep ∧ (T.w_ow z).shown = T.shown ∧ (T.w_ow z).src = T.src ∧ (T.w_ow z).ow = z ∧ (T.w_ow z).line = T.line ∧ (T.w_ow z).tk = T.tk ∧ (T.w_ow z).wt = T.wt ∧ (T.w_ow z).post = T.post ∧ (T.w_ow z).hg = T.hg ∧ (T.w_ow z).fl = T.fl ∧ (T.w_ow z).code = T.code := ⟨rfl, rfl, rfl, rfl, rfl, rfl, rfl, rfl, rfl, rfl, rfl, rfl, rfl, rfl, rfl, rfl, rfl, rfl, rfl, rfl, rfl, rfl⟩
theorem cw_line (T : CT) (z : Nat → List (Nat × Nat)) : (T.w_line z).there = T.there ∧ (T.w_line z).home = T.home ∧ (T.w_line z).reg = T.reg ∧ (T.w_line z).last = T.last ∧ (T.w_line z).vs = T.vs ∧ (T.w_line z).num = T.num ∧ (T.w_line z).vote = T.vote ∧ (T.w_line z).mark = T.mark ∧ (T.w_line z).draft = T.draft ∧ (T.w_line z).up = T.up ∧ (T.w_line z).par = T.par ∧ (T.w_line z).ep = T.ep ∧ (T.w_line z).shown = T.shown ∧ (T.w_line z).src = T.src ∧ (T.w_line z).ow = T.ow ∧ (T.w_line z).line = z ∧ (T.w_line z).tk = T.tk ∧ (T.w_line z).wt = T.wt ∧ (T.w_line z).post = T.post ∧ (T.w_line z).hg = T.hg ∧ (T.w_line z).fl = T.fl ∧ (T.w_line z).code = T.code := ⟨rfl, rfl, rfl, rfl, rfl, rfl, rfl, rfl, rfl, rfl, rfl, rfl, rfl, rfl, rfl, rfl, rfl, rfl, rfl, rfl, rfl, rfl⟩
theorem cw_tk (T : CT) (z : Nat → Nat) : (T.w_tk z).there = T.there ∧ (T.w_tk z).home = T.home ∧ (T.w_tk z).reg = T.reg ∧ (T.w_tk z).last = T.last ∧ (T.w_tk z).vs = T.vs ∧ (T.w_tk z).num = T.num ∧ (T.w_tk z).vote = T.vote ∧ (T.w_tk z).mark = T.mark ∧ (T.w_tk z).draft = T.draft ∧ (T.w_tk z).up = T.up ∧ (T.w_tk z).par = T.par ∧ (T.w_tk z).ep = T.ep ∧ (T.w_tk z).shown = T.shown ∧ (T.w_tk z).src = T.src ∧ (T.w_tk z).ow = T.ow ∧ (T.w_tk z).line = T.line ∧ (T.w_tk z).tk = z ∧ (T.w_tk z).wt = T.wt ∧ (T.w_tk z).post = T.post ∧ (T.w_tk z).hg = T.hg ∧ (T.w_tk z).fl = T.fl ∧ (T.w_tk z).code = T.code := ⟨rfl, rfl, rfl, rfl, rfl, rfl, rfl, rfl, rfl, rfl, rfl, rfl, rfl, rfl, rfl, rfl, rfl, rfl, rfl, rfl, rfl, rfl⟩
theorem cw_wt (T : CT) (z : Nat → List (Nat × Nat)) : (T.w_wt z).there = T.there ∧ (T.w_wt z).home = T.home ∧ (T.w_wt z).reg = T.reg ∧ (T.w_wt z).last = T.last ∧ (T.w_wt z).vs = T.vs ∧ (T.w_wt z).num = T.num ∧ (T.w_wt z).vote = T.vote ∧ (T.w_wt z).mark = T.mark ∧ (T.w_wt z).draft = T.draft ∧ (T.w_wt z).up = T.up ∧ (T.w_wt z).par = T.par ∧ (T.w_wt z).ep = T.ep ∧ (T.w_wt z).shown = T.shown ∧ (T.w_wt z).src = T.src ∧ (T.w_wt z).ow = T.ow ∧ (T.w_wt z).line = T.line ∧ (T.w_wt z).tk = T.tk ∧ (T.w_wt z).wt = z ∧ (T.w_wt z).post = T.post ∧ (T.w_wt z).hg = T.hg ∧ (T.w_wt z).fl = T.fl ∧ (T.w_wt z).code = T.code := ⟨rfl, rfl, rfl, rfl, rfl, rfl, rfl, rfl, rfl, rfl, rfl, rfl, rfl, rfl, rfl, rfl, rfl, rfl, rfl, rfl, rfl, rfl⟩
theorem cw_post (T : CT) (z : List (Nat × Int32 × Nat × Nat × Nat)) : (T.w_post z).there = T.there ∧ (T.w_post z).home = T.home ∧ (T.w_post z).reg = T.reg ∧ (T.w_post z).last = T.last ∧ (T.w_post z).vs = T.vs ∧ (T.w_post z).num = T.num ∧ (T.w_post z).vote = T.vote ∧ (T.w_post z).mark = T.mark ∧ (T.w_post z).draft = T.draft ∧ (T.w_post z).up = T.up ∧ (T.w_post z).par = T.par ∧ (T.w_post z).ep = T.ep ∧ (T.w_post z).shown = T.shown ∧ (T.w_post z).src = T.src ∧ (T.w_post z).ow = T.ow ∧ (T.w_post z).line = T.line ∧ (T.w_post z).tk = T.tk ∧ (T.w_post z).wt = T.wt ∧ (T.w_post z).post = z ∧ (T.w_post z).hg = T.hg ∧ (T.w_post z).fl = T.fl ∧ (T.w_post z).code = T.code := ⟨rfl, rfl, rfl, rfl, rfl, rfl, rfl, rfl, rfl, rfl, rfl, rfl, rfl, rfl, rfl, rfl, rfl, rfl, rfl, rfl, rfl, rfl⟩
theorem cw_hg (T : CT) (z : Nat) : (T.w_hg z).there = T.there ∧ (T.w_hg z).home = T.home ∧ (T.w_hg z).reg = T.reg ∧ (T.w_hg z).last = T.last ∧ (T.w_hg z).vs = T.vs ∧ (T.w_hg z).num = T.num ∧ (T.w_hg z).vote = T.vote ∧ (T.w_hg z).mark = T.mark ∧ (T.w_hg z).draft = T.draft ∧ (T.w_hg z).up = T.up ∧ (T.w_hg z).par = T.par ∧ (T.w_hg z).ep = T.ep ∧ (T.w_hg z).shown = T.shown ∧ (T.w_hg z).src = T.src ∧ (T.w_hg z).ow = T.ow ∧ (T.w_hg z).line = T.line ∧ (T.w_hg z).tk = T.tk ∧ (T.w_hg z).wt = T.wt ∧ (T.w_hg z).post = T.post ∧ (T.w_hg z).hg = z ∧ (T.w_hg z).fl = T.fl ∧ (T.w_hg z).code = T.code := ⟨rfl, rfl, rfl, rfl, rfl, rfl, rfl, rfl, rfl, rfl, rfl, rfl, rfl, rfl, rfl, rfl, rfl, rfl, rfl, rfl, rfl, rfl⟩
theorem cw_fl (T : CT) (z : Nat) : (T.w_fl z).there = T.there ∧ (T.w_fl z).home = T.home ∧ (T.w_fl z).reg = T.reg ∧ (T.w_fl z).last = T.last ∧ (T.w_fl z).vs = T.vs ∧ (T.w_fl z).num = T.num ∧ (T.w_fl z).vote = T.vote ∧ (T.w_fl z).mark = T.mark ∧ (T.w_fl z).draft = T.draft ∧ (T.w_fl z).up = T.up ∧ (T.w_fl z).par = T.par ∧ (T.w_fl z).ep = T.ep ∧ (T.w_fl z).shown = T.shown ∧ (T.w_fl z).src = T.src ∧ (T.w_fl z).ow = T.ow ∧ (T.w_fl z).line = T.line ∧ (T.w_fl z).tk = T.tk ∧ (T.w_fl z).wt = T.wt ∧ (T.w_fl z).post = T.post ∧ (T.w_fl z).hg = T.hg ∧ (T.w_fl z).fl = z ∧ (T.w_fl z).code = T.code := ⟨rfl, rfl, rfl, rfl, rfl, rfl, rfl, rfl, rfl, rfl, rfl, rfl, rfl, rfl, rfl, rfl, rfl, rfl, rfl, rfl, rfl, rfl⟩
theorem cw_code (T : CT) (z : Int32) : (T.w_code z).there = T.there ∧ (T.w_code z).home = T.home ∧ (T.w_code z).reg = T.reg ∧ (T.w_code z).last = T.last ∧ (T.w_code z).vs = T.vs ∧ (T.w_code z).num = T.num ∧ (T.w_code z).vote = T.vote ∧ (T.w_code z).mark = T.mark ∧ (T.w_code z).draft = T.draft ∧ (T.w_code z).up = T.up ∧ (T.w_code z).par = T.par ∧ (T.w_code z).ep = T.ep ∧ (T.w_code z).shown = T.shown ∧ (T.w_code z).src = T.src ∧ (T.w_code z).ow = T.ow ∧ (T.w_code z).line = T.line ∧ (T.w_code z).tk = T.tk ∧ (T.w_code z).wt = T.wt ∧ (T.w_code z).post = T.post ∧ (T.w_code z).hg = T.hg ∧ (T.w_code z).fl = T.fl ∧ (T.w_code z).code = z := ⟨rfl, rfl, rfl, rfl, rfl, rfl, rfl, rfl, rfl, rfl, rfl, rfl, rfl, rfl, rfl, rfl, rfl, rfl, rfl, rfl, rfl, rfl⟩
def bI (b : Bool) : Int32 := if b then 1 else 0
def oI (a : Option Nat) : Int32 := match a with
  | none => -1
  | some j => nI j
def ct1 {α : Type} (f : Nat → α) (o : Nat) (v : α) : Nat → α := fun a => if a = o then v else f a
def ct2 {α : Type} (f : Nat → Nat → α) (o p : Nat) (v : α) : Nat → Nat → α := fun a b => if a = o ∧ b = p then v else f a b
theorem bI_t : bI true = 1 := rfl
theorem bI_f : bI false = 0 := rfl
theorem bI_0 {b : Bool} : bI b = 0 ↔ b = false := by cases b <;> simp [bI]
theorem bI_n {b : Bool} : bI b ≠ 0 ↔ b = true := by cases b <;> simp [bI]
theorem oI_n : oI none = -1 := rfl
theorem oI_s (j : Nat) : oI (some j) = nI j := rfl
theorem ct_I {x : Int32} {n : Nat} (hn : n < 2 ^ 31) (h : x = nI n) : x.toInt = n := by rw [h, nI_toInt hn]
theorem oI_lt {a : Option Nat} (h : ∀ j, a = some j → j < 12) : oI a < 0 ↔ a = none := by
  cases a with
  | none => simp [oI]
  | some j =>
    have := nI_pos (n := j) (by have := h j rfl; omega)
    simp [oI, this]
theorem oI_eq {a : Option Nat} {o : Nat} (h : ∀ j, a = some j → j < 12) (ho : o < 12) : oI a = nI o ↔ a = some o := by
  cases a with
  | none =>
    have : ¬ ((-1 : Int32) = nI o) := fun e => nI_pos (n := o) (by omega) (by rw [← e]; decide)
    simp [oI, this]
  | some j =>
    have := nI_eq (a := j) (b := o) (by have := h j rfl; omega) (by omega)
    simp [oI, this]
theorem oI_n1 {a : Option Nat} (h : ∀ j, a = some j → j < 12) : oI a = -1 ↔ a = none := by
  cases a with
  | none => simp [oI]
  | some j =>
    have : ¬ (nI j = (-1 : Int32)) := fun e => nI_pos (n := j) (by have := h j rfl; omega) (by rw [e]; decide)
    simp [oI, this]
theorem nI_z {n : Nat} (h : n < 2 ^ 31) : nI n = 0 ↔ n = 0 := nI_eq (b := 0) h (by decide)
theorem nI_le0 {n : Nat} (h : n < 2 ^ 31) : nI n ≤ 0 ↔ n = 0 := by
  have := nI_leI (b := 0) h (by decide)
  rw [nI_0] at this
  rw [this]
  omega
theorem ix40 (o p : Nat) : (40 : Int32) * nI o + nI p = nI (40 * o + p) := by
  rw [show (40 : Int32) = nI 40 from rfl, pk_mul, nI_add]
theorem ix9k (o p : Nat) : (9000 : Int32) * nI o + nI p = nI (9000 * o + p) := by
  rw [show (9000 : Int32) = nI 9000 from rfl, pk_mul, nI_add]
theorem ix2k (o : Nat) : (2000 : Int32) * nI o = nI (2000 * o) := by
  rw [show (2000 : Int32) = nI 2000 from rfl, pk_mul]
theorem ix6 (o p : Nat) : (6 : Int32) * nI o + nI p = nI (6 * o + p) := by
  rw [show (6 : Int32) = nI 6 from rfl, pk_mul, nI_add]
/-- the reference's cells show the state; but for what waits from office c, and without the letters where b is false -/
def Rel (c : Nat) (b : Bool) (S : gS) (T : CT) : Prop :=
  (∀ p, p < 40 → S 84 p = bI (T.there p)) ∧
  (∀ p, p < 40 → S 85 p = nI (T.home p)) ∧
  (∀ p, p < 40 → S 86 p = T.reg p) ∧
  (∀ p, p < 40 → S 87 p = nI (T.last p)) ∧
  (S 83 5 = nI T.vs) ∧
  (∀ i, i < 301 → S 88 i = T.num i) ∧
  (∀ i k, i < 301 → k < 6 → S 89 (6 * i + k) = T.vote i k) ∧
  (∀ i, i < 301 → S 90 i = T.mark i) ∧
  (∀ k, k < 6 → S 91 k = T.draft k) ∧
  (∀ o, o < 12 → S 92 o = bI (T.up o)) ∧
  (∀ o, o < 12 → S 93 o = oI (T.par o)) ∧
  (∀ o, o < 12 → S 94 o = T.ep o) ∧
  (∀ o p, o < 12 → p < 40 → S 95 (40 * o + p) = nI (T.shown o p)) ∧
  (∀ o p, o < 12 → p < 40 → S 96 (40 * o + p) = oI (T.src o p)) ∧
  (∀ o p, o < 12 → p < 40 → S 97 (40 * o + p) = bI (T.ow o p)) ∧
  (∀ o, o < 12 → S 98 o = nI (T.line o).length) ∧
  (∀ o i x, o < 12 → i < 9000 → (T.line o)[i]? = some x → S 99 (9000 * o + i) = nI x.1 ∧ S 100 (9000 * o + i) = nI x.2) ∧
  (∀ o, o < 12 → S 101 o = nI (T.tk o)) ∧
  (∀ o, o < 12 → o ≠ c → S 102 o = nI (T.wt o).length) ∧
  (∀ o i x, o < 12 → o ≠ c → i < 2000 → (T.wt o)[i]? = some x → S 103 (2000 * o + i) = nI x.1 ∧ S 104 (2000 * o + i) = nI x.2) ∧
  (b = true → S 83 23 = nI T.post.length) ∧
  (b = true → ∀ (i : Nat) x, i < 500 → T.post[i]? = some x → S 105 i = nI x.1 ∧ S 106 i = x.2.1 ∧ S 107 i = nI x.2.2.1 ∧ S 108 i = nI x.2.2.2.1 ∧ S 109 i = nI x.2.2.2.2) ∧
  (S 83 29 = nI T.hg) ∧
  (S 83 30 = nI T.fl) ∧
  (S 83 0 = T.code)
theorem Rel.there {c : Nat} {b : Bool} {S : gS} {T : CT} (h : Rel c b S T) : ∀ p, p < 40 → S 84 p = bI (T.there p) := h.1
theorem Rel.home {c : Nat} {b : Bool} {S : gS} {T : CT} (h : Rel c b S T) : ∀ p, p < 40 → S 85 p = nI (T.home p) := h.2.1
theorem Rel.reg {c : Nat} {b : Bool} {S : gS} {T : CT} (h : Rel c b S T) : ∀ p, p < 40 → S 86 p = T.reg p := h.2.2.1
theorem Rel.last {c : Nat} {b : Bool} {S : gS} {T : CT} (h : Rel c b S T) : ∀ p, p < 40 → S 87 p = nI (T.last p) := h.2.2.2.1
theorem Rel.vs {c : Nat} {b : Bool} {S : gS} {T : CT} (h : Rel c b S T) : S 83 5 = nI T.vs := h.2.2.2.2.1
theorem Rel.num {c : Nat} {b : Bool} {S : gS} {T : CT} (h : Rel c b S T) : ∀ i, i < 301 → S 88 i = T.num i := h.2.2.2.2.2.1
theorem Rel.vote {c : Nat} {b : Bool} {S : gS} {T : CT} (h : Rel c b S T) : ∀ i k, i < 301 → k < 6 → S 89 (6 * i + k) = T.vote i k := h.2.2.2.2.2.2.1
theorem Rel.mark {c : Nat} {b : Bool} {S : gS} {T : CT} (h : Rel c b S T) : ∀ i, i < 301 → S 90 i = T.mark i := h.2.2.2.2.2.2.2.1
theorem Rel.draft {c : Nat} {b : Bool} {S : gS} {T : CT} (h : Rel c b S T) : ∀ k, k < 6 → S 91 k = T.draft k := h.2.2.2.2.2.2.2.2.1
theorem Rel.up {c : Nat} {b : Bool} {S : gS} {T : CT} (h : Rel c b S T) : ∀ o, o < 12 → S 92 o = bI (T.up o) := h.2.2.2.2.2.2.2.2.2.1
theorem Rel.par {c : Nat} {b : Bool} {S : gS} {T : CT} (h : Rel c b S T) : ∀ o, o < 12 → S 93 o = oI (T.par o) := h.2.2.2.2.2.2.2.2.2.2.1
theorem Rel.ep {c : Nat} {b : Bool} {S : gS} {T : CT} (h : Rel c b S T) : ∀ o, o < 12 → S 94 o = T.ep o := h.2.2.2.2.2.2.2.2.2.2.2.1
theorem Rel.shown {c : Nat} {b : Bool} {S : gS} {T : CT} (h : Rel c b S T) : ∀ o p, o < 12 → p < 40 → S 95 (40 * o + p) = nI (T.shown o p) := h.2.2.2.2.2.2.2.2.2.2.2.2.1
theorem Rel.src {c : Nat} {b : Bool} {S : gS} {T : CT} (h : Rel c b S T) : ∀ o p, o < 12 → p < 40 → S 96 (40 * o + p) = oI (T.src o p) := h.2.2.2.2.2.2.2.2.2.2.2.2.2.1
theorem Rel.ow {c : Nat} {b : Bool} {S : gS} {T : CT} (h : Rel c b S T) : ∀ o p, o < 12 → p < 40 → S 97 (40 * o + p) = bI (T.ow o p) := h.2.2.2.2.2.2.2.2.2.2.2.2.2.2.1
theorem Rel.lineN {c : Nat} {b : Bool} {S : gS} {T : CT} (h : Rel c b S T) : ∀ o, o < 12 → S 98 o = nI (T.line o).length := h.2.2.2.2.2.2.2.2.2.2.2.2.2.2.2.1
theorem Rel.line {c : Nat} {b : Bool} {S : gS} {T : CT} (h : Rel c b S T) : ∀ o i x, o < 12 → i < 9000 → (T.line o)[i]? = some x → S 99 (9000 * o + i) = nI x.1 ∧ S 100 (9000 * o + i) = nI x.2 := h.2.2.2.2.2.2.2.2.2.2.2.2.2.2.2.2.1
theorem Rel.tk {c : Nat} {b : Bool} {S : gS} {T : CT} (h : Rel c b S T) : ∀ o, o < 12 → S 101 o = nI (T.tk o) := h.2.2.2.2.2.2.2.2.2.2.2.2.2.2.2.2.2.1
theorem Rel.wtN {c : Nat} {b : Bool} {S : gS} {T : CT} (h : Rel c b S T) : ∀ o, o < 12 → o ≠ c → S 102 o = nI (T.wt o).length := h.2.2.2.2.2.2.2.2.2.2.2.2.2.2.2.2.2.2.1
theorem Rel.wt {c : Nat} {b : Bool} {S : gS} {T : CT} (h : Rel c b S T) : ∀ o i x, o < 12 → o ≠ c → i < 2000 → (T.wt o)[i]? = some x → S 103 (2000 * o + i) = nI x.1 ∧ S 104 (2000 * o + i) = nI x.2 := h.2.2.2.2.2.2.2.2.2.2.2.2.2.2.2.2.2.2.2.1
theorem Rel.postN {c : Nat} {b : Bool} {S : gS} {T : CT} (h : Rel c b S T) : b = true → S 83 23 = nI T.post.length := h.2.2.2.2.2.2.2.2.2.2.2.2.2.2.2.2.2.2.2.2.1
theorem Rel.post {c : Nat} {b : Bool} {S : gS} {T : CT} (h : Rel c b S T) : b = true → ∀ (i : Nat) x, i < 500 → T.post[i]? = some x → S 105 i = nI x.1 ∧ S 106 i = x.2.1 ∧ S 107 i = nI x.2.2.1 ∧ S 108 i = nI x.2.2.2.1 ∧ S 109 i = nI x.2.2.2.2 := h.2.2.2.2.2.2.2.2.2.2.2.2.2.2.2.2.2.2.2.2.2.1
theorem Rel.hg {c : Nat} {b : Bool} {S : gS} {T : CT} (h : Rel c b S T) : S 83 29 = nI T.hg := h.2.2.2.2.2.2.2.2.2.2.2.2.2.2.2.2.2.2.2.2.2.2.1
theorem Rel.fl {c : Nat} {b : Bool} {S : gS} {T : CT} (h : Rel c b S T) : S 83 30 = nI T.fl := h.2.2.2.2.2.2.2.2.2.2.2.2.2.2.2.2.2.2.2.2.2.2.2.1
theorem Rel.code {c : Nat} {b : Bool} {S : gS} {T : CT} (h : Rel c b S T) : S 83 0 = T.code := h.2.2.2.2.2.2.2.2.2.2.2.2.2.2.2.2.2.2.2.2.2.2.2.2
/-- the state's numbers are in their bounds -/
def Bd (T : CT) : Prop :=
  (∀ p, p < 40 → T.home p < 12) ∧
  (∀ p, p < 40 → T.last p ≤ T.vs) ∧
  (T.vs ≤ 300) ∧
  (∀ o j, o < 12 → T.par o = some j → j < 12) ∧
  (∀ o p, o < 12 → p < 40 → T.shown o p ≤ T.vs) ∧
  (∀ o p j, o < 12 → p < 40 → T.src o p = some j → j < 12) ∧
  (∀ o p, o < 12 → p < 40 → (T.shown o p = 0 ↔ T.src o p = none)) ∧
  (∀ o x, o < 12 → x ∈ T.line o → x.1 < 40 ∧ x.2 ≤ T.vs) ∧
  (∀ o, o < 12 → (T.line o).length ≤ 9000) ∧
  (∀ o, o < 12 → T.tk o ≤ 9000) ∧
  (∀ o x, o < 12 → x ∈ T.wt o → x.1 < 40 ∧ 0 < x.2 ∧ x.2 ≤ T.vs) ∧
  (∀ o, o < 12 → (T.wt o).length ≤ 2000) ∧
  (T.post.length ≤ 500) ∧
  (∀ x, x ∈ T.post → x.1 < 12 ∧ 0 < x.2.2.1 ∧ x.2.2.1 ≤ 9000 ∧ x.2.2.2.1 < 40 ∧ x.2.2.2.2 ≤ T.vs) ∧
  (T.hg ≤ 60) ∧
  (T.fl ≤ 30)
theorem Bd.home {T : CT} (h : Bd T) : ∀ p, p < 40 → T.home p < 12 := h.1
theorem Bd.last {T : CT} (h : Bd T) : ∀ p, p < 40 → T.last p ≤ T.vs := h.2.1
theorem Bd.vs {T : CT} (h : Bd T) : T.vs ≤ 300 := h.2.2.1
theorem Bd.par {T : CT} (h : Bd T) : ∀ o j, o < 12 → T.par o = some j → j < 12 := h.2.2.2.1
theorem Bd.shown {T : CT} (h : Bd T) : ∀ o p, o < 12 → p < 40 → T.shown o p ≤ T.vs := h.2.2.2.2.1
theorem Bd.src {T : CT} (h : Bd T) : ∀ o p j, o < 12 → p < 40 → T.src o p = some j → j < 12 := h.2.2.2.2.2.1
theorem Bd.srcN {T : CT} (h : Bd T) : ∀ o p, o < 12 → p < 40 → (T.shown o p = 0 ↔ T.src o p = none) := h.2.2.2.2.2.2.1
theorem Bd.line {T : CT} (h : Bd T) : ∀ o x, o < 12 → x ∈ T.line o → x.1 < 40 ∧ x.2 ≤ T.vs := h.2.2.2.2.2.2.2.1
theorem Bd.lineN {T : CT} (h : Bd T) : ∀ o, o < 12 → (T.line o).length ≤ 9000 := h.2.2.2.2.2.2.2.2.1
theorem Bd.tk {T : CT} (h : Bd T) : ∀ o, o < 12 → T.tk o ≤ 9000 := h.2.2.2.2.2.2.2.2.2.1
theorem Bd.wt {T : CT} (h : Bd T) : ∀ o x, o < 12 → x ∈ T.wt o → x.1 < 40 ∧ 0 < x.2 ∧ x.2 ≤ T.vs := h.2.2.2.2.2.2.2.2.2.2.1
theorem Bd.wtN {T : CT} (h : Bd T) : ∀ o, o < 12 → (T.wt o).length ≤ 2000 := h.2.2.2.2.2.2.2.2.2.2.2.1
theorem Bd.postN {T : CT} (h : Bd T) : T.post.length ≤ 500 := h.2.2.2.2.2.2.2.2.2.2.2.2.1
theorem Bd.post {T : CT} (h : Bd T) : ∀ x, x ∈ T.post → x.1 < 12 ∧ 0 < x.2.2.1 ∧ x.2.2.1 ≤ 9000 ∧ x.2.2.2.1 < 40 ∧ x.2.2.2.2 ≤ T.vs := h.2.2.2.2.2.2.2.2.2.2.2.2.2.1
theorem Bd.hg {T : CT} (h : Bd T) : T.hg ≤ 60 := h.2.2.2.2.2.2.2.2.2.2.2.2.2.2.1
theorem Bd.fl {T : CT} (h : Bd T) : T.fl ≤ 30 := h.2.2.2.2.2.2.2.2.2.2.2.2.2.2.2
/-- the functions on the state -/
def y_send (T : CT) (o k : Nat) (x : Nat × Nat) : CT := if T.post.length < 500 then T.w_post (T.post ++ [(o, T.ep o, k, x.1, x.2)]) else T
def y_tell (T : CT) (o p v : Nat) : CT := y_send (T.w_line (ct1 T.line o (T.line o ++ [(p, v)]))) o ((T.line o).length + 1) (p, v)
def y_may (T : CT) (o p j : Nat) : Bool := T.shown o p == 0 || T.src o p == some j
def y_put (T : CT) (o p v : Nat) (s : Option Nat) : CT := (T.w_shown (ct2 T.shown o p v)).w_src (ct2 T.src o p s)
def y_set (T : CT) (o p v : Nat) (s : Option Nat) : CT := if (T.par o).isSome then y_tell (y_put T o p v s) o p v else y_put T o p v s
def y_unset (T : CT) (o p j : Nat) : CT := if T.src o p = some j then y_set T o p 0 none else T
def y_own (T : CT) (o p : Nat) : CT := if y_may T o p o then y_set (T.w_ow (ct2 T.ow o p false)) o p (T.last p) (some o) else T.w_ow (ct2 T.ow o p true)
def y_first (T : CT) (o c : Nat) : Option CT := match T.wt c with
  | [] => none
  | x :: xs => if y_may T o x.1 c then some (y_set (T.w_wt (ct1 T.wt c xs)) o x.1 x.2 (some c)) else none
def y_e1 (T : CT) (o : Nat) : CT := T.w_par (ct1 T.par o none)
def y_e2 (T : CT) (o : Nat) : CT := T.w_tk (ct1 T.tk o 0)
def y_e3 (T : CT) (o : Nat) : CT := T.w_line (ct1 T.line o [])
def y_e4 (T : CT) (o : Nat) : CT := T.w_wt (ct1 T.wt o [])
def y_end (T : CT) (o : Nat) : CT := y_e4 (y_e2 (y_e3 (y_e1 T o) o) o) o
/-- the reference's picture of the state; every other cell is M0's -/
def RT (M0 : gzM) (T : CT) (M : gzM) : Prop := ∃ S L, RF M0 S L M ∧ Rel 12 true S T
