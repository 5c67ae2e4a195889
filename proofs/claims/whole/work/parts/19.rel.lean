/-! What each store does to Rel. Printed by wip/whole/rel.py -/
theorem ct1_s {α : Type} {f : Nat → α} {o : Nat} {v : α} : ct1 f o v o = v := by simp [ct1]
theorem ct1_n {α : Type} {f : Nat → α} {o a : Nat} {v : α} (h : a ≠ o) : ct1 f o v a = f a := by simp [ct1, h]
theorem ct2_s {α : Type} {f : Nat → Nat → α} {o p : Nat} {v : α} : ct2 f o p v o p = v := by simp [ct2]
theorem ct2_n {α : Type} {f : Nat → Nat → α} {o p a b : Nat} {v : α} (h : ¬ (a = o ∧ b = p)) : ct2 f o p v a b = f a b := by simp [ct2, h]
theorem Rel.s_there {c : Nat} {b : Bool} {S : gS} {T : CT} (h : Rel c b S T) {o : Nat} {y : Int32} {v : Bool} (ho : o < 40) (hy : y = bI v) : Rel c b (gs_set S 84 o y) (T.w_there (ct1 T.there o v)) :=
  ⟨fun a ha => by
    by_cases e : a = o
    · rw [e, gs_same]
      show y = bI (ct1 T.there o v o)
      rw [ct1_s, hy]
    · rw [gs_ne (fun z => e z.2)]
      show _ = bI (ct1 T.there o v a)
      rw [ct1_n e]
      exact h.there a ha, h.home, h.reg, h.last, h.vs, h.num, h.vote, h.mark, h.draft, h.up, h.par, h.ep, h.shown, h.src, h.ow, h.lineN, h.line, h.tk, h.wtN, h.wt, h.postN, h.post, h.hg, h.fl, h.code⟩
theorem Rel.s_home {c : Nat} {b : Bool} {S : gS} {T : CT} (h : Rel c b S T) {o : Nat} {y : Int32} {v : Nat} (ho : o < 40) (hy : y = nI v) : Rel c b (gs_set S 85 o y) (T.w_home (ct1 T.home o v)) :=
  ⟨h.there, fun a ha => by
    by_cases e : a = o
    · rw [e, gs_same]
      show y = nI (ct1 T.home o v o)
      rw [ct1_s, hy]
    · rw [gs_ne (fun z => e z.2)]
      show _ = nI (ct1 T.home o v a)
      rw [ct1_n e]
      exact h.home a ha, h.reg, h.last, h.vs, h.num, h.vote, h.mark, h.draft, h.up, h.par, h.ep, h.shown, h.src, h.ow, h.lineN, h.line, h.tk, h.wtN, h.wt, h.postN, h.post, h.hg, h.fl, h.code⟩
theorem Rel.s_reg {c : Nat} {b : Bool} {S : gS} {T : CT} (h : Rel c b S T) {o : Nat} {y : Int32} {v : Int32} (ho : o < 40) (hy : y = v) : Rel c b (gs_set S 86 o y) (T.w_reg (ct1 T.reg o v)) :=
  ⟨h.there, h.home, fun a ha => by
    by_cases e : a = o
    · rw [e, gs_same]
      show y = (ct1 T.reg o v o)
      rw [ct1_s, hy]
    · rw [gs_ne (fun z => e z.2)]
      show _ = (ct1 T.reg o v a)
      rw [ct1_n e]
      exact h.reg a ha, h.last, h.vs, h.num, h.vote, h.mark, h.draft, h.up, h.par, h.ep, h.shown, h.src, h.ow, h.lineN, h.line, h.tk, h.wtN, h.wt, h.postN, h.post, h.hg, h.fl, h.code⟩
theorem Rel.s_last {c : Nat} {b : Bool} {S : gS} {T : CT} (h : Rel c b S T) {o : Nat} {y : Int32} {v : Nat} (ho : o < 40) (hy : y = nI v) : Rel c b (gs_set S 87 o y) (T.w_last (ct1 T.last o v)) :=
  ⟨h.there, h.home, h.reg, fun a ha => by
    by_cases e : a = o
    · rw [e, gs_same]
      show y = nI (ct1 T.last o v o)
      rw [ct1_s, hy]
    · rw [gs_ne (fun z => e z.2)]
      show _ = nI (ct1 T.last o v a)
      rw [ct1_n e]
      exact h.last a ha, h.vs, h.num, h.vote, h.mark, h.draft, h.up, h.par, h.ep, h.shown, h.src, h.ow, h.lineN, h.line, h.tk, h.wtN, h.wt, h.postN, h.post, h.hg, h.fl, h.code⟩
theorem Rel.s_num {c : Nat} {b : Bool} {S : gS} {T : CT} (h : Rel c b S T) {o : Nat} {y : Int32} {v : Int32} (ho : o < 301) (hy : y = v) : Rel c b (gs_set S 88 o y) (T.w_num (ct1 T.num o v)) :=
  ⟨h.there, h.home, h.reg, h.last, h.vs, fun a ha => by
    by_cases e : a = o
    · rw [e, gs_same]
      show y = (ct1 T.num o v o)
      rw [ct1_s, hy]
    · rw [gs_ne (fun z => e z.2)]
      show _ = (ct1 T.num o v a)
      rw [ct1_n e]
      exact h.num a ha, h.vote, h.mark, h.draft, h.up, h.par, h.ep, h.shown, h.src, h.ow, h.lineN, h.line, h.tk, h.wtN, h.wt, h.postN, h.post, h.hg, h.fl, h.code⟩
theorem Rel.s_mark {c : Nat} {b : Bool} {S : gS} {T : CT} (h : Rel c b S T) {o : Nat} {y : Int32} {v : Int32} (ho : o < 301) (hy : y = v) : Rel c b (gs_set S 90 o y) (T.w_mark (ct1 T.mark o v)) :=
  ⟨h.there, h.home, h.reg, h.last, h.vs, h.num, h.vote, fun a ha => by
    by_cases e : a = o
    · rw [e, gs_same]
      show y = (ct1 T.mark o v o)
      rw [ct1_s, hy]
    · rw [gs_ne (fun z => e z.2)]
      show _ = (ct1 T.mark o v a)
      rw [ct1_n e]
      exact h.mark a ha, h.draft, h.up, h.par, h.ep, h.shown, h.src, h.ow, h.lineN, h.line, h.tk, h.wtN, h.wt, h.postN, h.post, h.hg, h.fl, h.code⟩
theorem Rel.s_draft {c : Nat} {b : Bool} {S : gS} {T : CT} (h : Rel c b S T) {o : Nat} {y : Int32} {v : Int32} (ho : o < 6) (hy : y = v) : Rel c b (gs_set S 91 o y) (T.w_draft (ct1 T.draft o v)) :=
  ⟨h.there, h.home, h.reg, h.last, h.vs, h.num, h.vote, h.mark, fun a ha => by
    by_cases e : a = o
    · rw [e, gs_same]
      show y = (ct1 T.draft o v o)
      rw [ct1_s, hy]
    · rw [gs_ne (fun z => e z.2)]
      show _ = (ct1 T.draft o v a)
      rw [ct1_n e]
      exact h.draft a ha, h.up, h.par, h.ep, h.shown, h.src, h.ow, h.lineN, h.line, h.tk, h.wtN, h.wt, h.postN, h.post, h.hg, h.fl, h.code⟩
theorem Rel.s_up {c : Nat} {b : Bool} {S : gS} {T : CT} (h : Rel c b S T) {o : Nat} {y : Int32} {v : Bool} (ho : o < 12) (hy : y = bI v) : Rel c b (gs_set S 92 o y) (T.w_up (ct1 T.up o v)) :=
  ⟨h.there, h.home, h.reg, h.last, h.vs, h.num, h.vote, h.mark, h.draft, fun a ha => by
    by_cases e : a = o
    · rw [e, gs_same]
      show y = bI (ct1 T.up o v o)
      rw [ct1_s, hy]
    · rw [gs_ne (fun z => e z.2)]
      show _ = bI (ct1 T.up o v a)
      rw [ct1_n e]
      exact h.up a ha, h.par, h.ep, h.shown, h.src, h.ow, h.lineN, h.line, h.tk, h.wtN, h.wt, h.postN, h.post, h.hg, h.fl, h.code⟩
theorem Rel.s_par {c : Nat} {b : Bool} {S : gS} {T : CT} (h : Rel c b S T) {o : Nat} {y : Int32} {v : Option Nat} (ho : o < 12) (hy : y = oI v) : Rel c b (gs_set S 93 o y) (T.w_par (ct1 T.par o v)) :=
  ⟨h.there, h.home, h.reg, h.last, h.vs, h.num, h.vote, h.mark, h.draft, h.up, fun a ha => by
    by_cases e : a = o
    · rw [e, gs_same]
      show y = oI (ct1 T.par o v o)
      rw [ct1_s, hy]
    · rw [gs_ne (fun z => e z.2)]
      show _ = oI (ct1 T.par o v a)
      rw [ct1_n e]
      exact h.par a ha, h.ep, h.shown, h.src, h.ow, h.lineN, h.line, h.tk, h.wtN, h.wt, h.postN, h.post, h.hg, h.fl, h.code⟩
theorem Rel.s_ep {c : Nat} {b : Bool} {S : gS} {T : CT} (h : Rel c b S T) {o : Nat} {y : Int32} {v : Int32} (ho : o < 12) (hy : y = v) : Rel c b (gs_set S 94 o y) (T.w_ep (ct1 T.ep o v)) :=
  ⟨h.there, h.home, h.reg, h.last, h.vs, h.num, h.vote, h.mark, h.draft, h.up, h.par, fun a ha => by
    by_cases e : a = o
    · rw [e, gs_same]
      show y = (ct1 T.ep o v o)
      rw [ct1_s, hy]
    · rw [gs_ne (fun z => e z.2)]
      show _ = (ct1 T.ep o v a)
      rw [ct1_n e]
      exact h.ep a ha, h.shown, h.src, h.ow, h.lineN, h.line, h.tk, h.wtN, h.wt, h.postN, h.post, h.hg, h.fl, h.code⟩
theorem Rel.s_tk {c : Nat} {b : Bool} {S : gS} {T : CT} (h : Rel c b S T) {o : Nat} {y : Int32} {v : Nat} (ho : o < 12) (hy : y = nI v) : Rel c b (gs_set S 101 o y) (T.w_tk (ct1 T.tk o v)) :=
  ⟨h.there, h.home, h.reg, h.last, h.vs, h.num, h.vote, h.mark, h.draft, h.up, h.par, h.ep, h.shown, h.src, h.ow, h.lineN, h.line, fun a ha => by
    by_cases e : a = o
    · rw [e, gs_same]
      show y = nI (ct1 T.tk o v o)
      rw [ct1_s, hy]
    · rw [gs_ne (fun z => e z.2)]
      show _ = nI (ct1 T.tk o v a)
      rw [ct1_n e]
      exact h.tk a ha, h.wtN, h.wt, h.postN, h.post, h.hg, h.fl, h.code⟩
theorem Rel.s_vote {c : Nat} {b : Bool} {S : gS} {T : CT} (h : Rel c b S T) {o p : Nat} {y : Int32} {v : Int32} (ho : o < 301) (hp : p < 6) (hy : y = v) : Rel c b (gs_set S 89 (6 * o + p) y) (T.w_vote (ct2 T.vote o p v)) :=
  ⟨h.there, h.home, h.reg, h.last, h.vs, h.num, fun a q ha hq => by
    by_cases e : a = o ∧ q = p
    · rw [e.1, e.2, gs_same]
      show y = (ct2 T.vote o p v o p)
      rw [ct2_s, hy]
    · rw [gs_ne (by omega)]
      show _ = (ct2 T.vote o p v a q)
      rw [ct2_n e]
      exact h.vote a q ha hq, h.mark, h.draft, h.up, h.par, h.ep, h.shown, h.src, h.ow, h.lineN, h.line, h.tk, h.wtN, h.wt, h.postN, h.post, h.hg, h.fl, h.code⟩
theorem Rel.s_shown {c : Nat} {b : Bool} {S : gS} {T : CT} (h : Rel c b S T) {o p : Nat} {y : Int32} {v : Nat} (ho : o < 12) (hp : p < 40) (hy : y = nI v) : Rel c b (gs_set S 95 (40 * o + p) y) (T.w_shown (ct2 T.shown o p v)) :=
  ⟨h.there, h.home, h.reg, h.last, h.vs, h.num, h.vote, h.mark, h.draft, h.up, h.par, h.ep, fun a q ha hq => by
    by_cases e : a = o ∧ q = p
    · rw [e.1, e.2, gs_same]
      show y = nI (ct2 T.shown o p v o p)
      rw [ct2_s, hy]
    · rw [gs_ne (by omega)]
      show _ = nI (ct2 T.shown o p v a q)
      rw [ct2_n e]
      exact h.shown a q ha hq, h.src, h.ow, h.lineN, h.line, h.tk, h.wtN, h.wt, h.postN, h.post, h.hg, h.fl, h.code⟩
theorem Rel.s_src {c : Nat} {b : Bool} {S : gS} {T : CT} (h : Rel c b S T) {o p : Nat} {y : Int32} {v : Option Nat} (ho : o < 12) (hp : p < 40) (hy : y = oI v) : Rel c b (gs_set S 96 (40 * o + p) y) (T.w_src (ct2 T.src o p v)) :=
  ⟨h.there, h.home, h.reg, h.last, h.vs, h.num, h.vote, h.mark, h.draft, h.up, h.par, h.ep, h.shown, fun a q ha hq => by
    by_cases e : a = o ∧ q = p
    · rw [e.1, e.2, gs_same]
      show y = oI (ct2 T.src o p v o p)
      rw [ct2_s, hy]
    · rw [gs_ne (by omega)]
      show _ = oI (ct2 T.src o p v a q)
      rw [ct2_n e]
      exact h.src a q ha hq, h.ow, h.lineN, h.line, h.tk, h.wtN, h.wt, h.postN, h.post, h.hg, h.fl, h.code⟩
theorem Rel.s_ow {c : Nat} {b : Bool} {S : gS} {T : CT} (h : Rel c b S T) {o p : Nat} {y : Int32} {v : Bool} (ho : o < 12) (hp : p < 40) (hy : y = bI v) : Rel c b (gs_set S 97 (40 * o + p) y) (T.w_ow (ct2 T.ow o p v)) :=
  ⟨h.there, h.home, h.reg, h.last, h.vs, h.num, h.vote, h.mark, h.draft, h.up, h.par, h.ep, h.shown, h.src, fun a q ha hq => by
    by_cases e : a = o ∧ q = p
    · rw [e.1, e.2, gs_same]
      show y = bI (ct2 T.ow o p v o p)
      rw [ct2_s, hy]
    · rw [gs_ne (by omega)]
      show _ = bI (ct2 T.ow o p v a q)
      rw [ct2_n e]
      exact h.ow a q ha hq, h.lineN, h.line, h.tk, h.wtN, h.wt, h.postN, h.post, h.hg, h.fl, h.code⟩
theorem Rel.s_vs {c : Nat} {b : Bool} {S : gS} {T : CT} (h : Rel c b S T) {y : Int32} {v : Nat} (hy : y = nI v) : Rel c b (gs_set S 83 5 y) (T.w_vs v) :=
  ⟨h.there, h.home, h.reg, h.last, (by rw [gs_same]; exact hy), h.num, h.vote, h.mark, h.draft, h.up, h.par, h.ep, h.shown, h.src, h.ow, h.lineN, h.line, h.tk, h.wtN, h.wt, h.postN, h.post, h.hg, h.fl, h.code⟩
theorem Rel.s_hg {c : Nat} {b : Bool} {S : gS} {T : CT} (h : Rel c b S T) {y : Int32} {v : Nat} (hy : y = nI v) : Rel c b (gs_set S 83 29 y) (T.w_hg v) :=
  ⟨h.there, h.home, h.reg, h.last, h.vs, h.num, h.vote, h.mark, h.draft, h.up, h.par, h.ep, h.shown, h.src, h.ow, h.lineN, h.line, h.tk, h.wtN, h.wt, h.postN, h.post, (by rw [gs_same]; exact hy), h.fl, h.code⟩
theorem Rel.s_fl {c : Nat} {b : Bool} {S : gS} {T : CT} (h : Rel c b S T) {y : Int32} {v : Nat} (hy : y = nI v) : Rel c b (gs_set S 83 30 y) (T.w_fl v) :=
  ⟨h.there, h.home, h.reg, h.last, h.vs, h.num, h.vote, h.mark, h.draft, h.up, h.par, h.ep, h.shown, h.src, h.ow, h.lineN, h.line, h.tk, h.wtN, h.wt, h.postN, h.post, h.hg, (by rw [gs_same]; exact hy), h.code⟩
theorem Rel.s_code {c : Nat} {b : Bool} {S : gS} {T : CT} (h : Rel c b S T) {y : Int32} : Rel c b (gs_set S 83 0 y) (T.w_code y) :=
  ⟨h.there, h.home, h.reg, h.last, h.vs, h.num, h.vote, h.mark, h.draft, h.up, h.par, h.ep, h.shown, h.src, h.ow, h.lineN, h.line, h.tk, h.wtN, h.wt, h.postN, h.post, h.hg, h.fl, gs_same⟩
theorem Rel.s_got {c : Nat} {b : Bool} {S : gS} {T : CT} (h : Rel c b S T) {i : Nat} {y : Int32} : Rel c b (gs_set S 112 i y) (T) :=
  ⟨h.there, h.home, h.reg, h.last, h.vs, h.num, h.vote, h.mark, h.draft, h.up, h.par, h.ep, h.shown, h.src, h.ow, h.lineN, h.line, h.tk, h.wtN, h.wt, h.postN, h.post, h.hg, h.fl, h.code⟩
theorem Rel.j_lineP {c : Nat} {b : Bool} {S : gS} {T : CT} (h : Rel c b S T) {o i : Nat} {y : Int32} (ho : o < 12) (hi : i < 9000) (hl : (T.line o).length ≤ i) : Rel c b (gs_set S 99 (9000 * o + i) y) (T) :=
  ⟨h.there, h.home, h.reg, h.last, h.vs, h.num, h.vote, h.mark, h.draft, h.up, h.par, h.ep, h.shown, h.src, h.ow, h.lineN, fun a k x ha hk hx => by
    have hne : ¬ (a = o ∧ k = i) := fun e => by
      obtain ⟨rfl, rfl⟩ := e
      rw [List.getElem?_eq_none hl] at hx
      cases hx
    rw [gs_ne (by omega)]
    exact h.line a k x ha hk hx, h.tk, h.wtN, h.wt, h.postN, h.post, h.hg, h.fl, h.code⟩
theorem Rel.j_lineV {c : Nat} {b : Bool} {S : gS} {T : CT} (h : Rel c b S T) {o i : Nat} {y : Int32} (ho : o < 12) (hi : i < 9000) (hl : (T.line o).length ≤ i) : Rel c b (gs_set S 100 (9000 * o + i) y) (T) :=
  ⟨h.there, h.home, h.reg, h.last, h.vs, h.num, h.vote, h.mark, h.draft, h.up, h.par, h.ep, h.shown, h.src, h.ow, h.lineN, fun a k x ha hk hx => by
    have hne : ¬ (a = o ∧ k = i) := fun e => by
      obtain ⟨rfl, rfl⟩ := e
      rw [List.getElem?_eq_none hl] at hx
      cases hx
    rw [gs_ne (a := 100) (by omega)]
    exact h.line a k x ha hk hx, h.tk, h.wtN, h.wt, h.postN, h.post, h.hg, h.fl, h.code⟩
theorem Rel.s_line {c : Nat} {b : Bool} {S : gS} {T : CT} (h : Rel c b S T) {o : Nat} {y : Int32} {xs : List (Nat × Nat)} (hy : y = nI xs.length) (hx : ∀ i x, i < 9000 → xs[i]? = some x → S 99 (9000 * o + i) = nI x.1 ∧ S 100 (9000 * o + i) = nI x.2) : Rel c b (gs_set S 98 o y) (T.w_line (ct1 T.line o xs)) :=
  ⟨h.there, h.home, h.reg, h.last, h.vs, h.num, h.vote, h.mark, h.draft, h.up, h.par, h.ep, h.shown, h.src, h.ow, fun a ha => by
    by_cases e : a = o
    · rw [e, gs_same]
      show y = nI (ct1 T.line o xs o).length
      rw [ct1_s, hy]
    · rw [gs_ne (fun z => e z.2)]
      show _ = nI (ct1 T.line o xs a).length
      rw [ct1_n e]
      exact h.lineN a ha, fun a i x ha hi hq => by
    replace hq : (ct1 T.line o xs a)[i]? = some x := hq
    show S 99 (9000 * a + i) = _ ∧ S 100 (9000 * a + i) = _
    by_cases e : a = o
    · subst e
      rw [ct1_s] at hq
      exact hx i x hi hq
    · rw [ct1_n e] at hq
      exact h.line a i x ha hi hq, h.tk, h.wtN, h.wt, h.postN, h.post, h.hg, h.fl, h.code⟩
theorem Rel.x_wt {c : Nat} {b : Bool} {S : gS} {T : CT} (h : Rel 12 b S T)  : Rel c b (S) (T) :=
  ⟨h.there, h.home, h.reg, h.last, h.vs, h.num, h.vote, h.mark, h.draft, h.up, h.par, h.ep, h.shown, h.src, h.ow, h.lineN, h.line, h.tk, fun a ha _ => h.wtN a ha (by omega), fun a i x ha _ => h.wt a i x ha (by omega), h.postN, h.post, h.hg, h.fl, h.code⟩
theorem Rel.j_wtP {c : Nat} {b : Bool} {S : gS} {T : CT} (h : Rel c b S T) {i : Nat} {y : Int32} (hi : i < 2000) : Rel c b (gs_set S 103 (2000 * c + i) y) (T) :=
  ⟨h.there, h.home, h.reg, h.last, h.vs, h.num, h.vote, h.mark, h.draft, h.up, h.par, h.ep, h.shown, h.src, h.ow, h.lineN, h.line, h.tk, h.wtN, fun a k x ha hc hk hx => by
    rw [gs_ne (a := 103) (by omega)]
    exact h.wt a k x ha hc hk hx, h.postN, h.post, h.hg, h.fl, h.code⟩
theorem Rel.j_wtV {c : Nat} {b : Bool} {S : gS} {T : CT} (h : Rel c b S T) {i : Nat} {y : Int32} (hi : i < 2000) : Rel c b (gs_set S 104 (2000 * c + i) y) (T) :=
  ⟨h.there, h.home, h.reg, h.last, h.vs, h.num, h.vote, h.mark, h.draft, h.up, h.par, h.ep, h.shown, h.src, h.ow, h.lineN, h.line, h.tk, h.wtN, fun a k x ha hc hk hx => by
    rw [gs_ne (a := 104) (by omega)]
    exact h.wt a k x ha hc hk hx, h.postN, h.post, h.hg, h.fl, h.code⟩
theorem Rel.j_wtN {c : Nat} {b : Bool} {S : gS} {T : CT} (h : Rel c b S T) {y : Int32} : Rel c b (gs_set S 102 c y) (T) :=
  ⟨h.there, h.home, h.reg, h.last, h.vs, h.num, h.vote, h.mark, h.draft, h.up, h.par, h.ep, h.shown, h.src, h.ow, h.lineN, h.line, h.tk, fun a ha hc => by
    rw [gs_ne (by omega)]
    exact h.wtN a ha hc, h.wt, h.postN, h.post, h.hg, h.fl, h.code⟩
theorem Rel.r_wt {c : Nat} {b : Bool} {S : gS} {T : CT} (h : Rel c b S T) {xs : List (Nat × Nat)} (hy : S 102 c = nI xs.length) (hx : ∀ i x, i < 2000 → xs[i]? = some x → S 103 (2000 * c + i) = nI x.1 ∧ S 104 (2000 * c + i) = nI x.2) : Rel 12 b (S) (T.w_wt (ct1 T.wt c xs)) :=
  ⟨h.there, h.home, h.reg, h.last, h.vs, h.num, h.vote, h.mark, h.draft, h.up, h.par, h.ep, h.shown, h.src, h.ow, h.lineN, h.line, h.tk, fun a ha _ => by
    show _ = nI (ct1 T.wt c xs a).length
    by_cases e : a = c
    · rw [e, ct1_s, hy]
    · rw [ct1_n e]
      exact h.wtN a ha e, fun a i x ha _ hi hq => by
    replace hq : (ct1 T.wt c xs a)[i]? = some x := hq
    by_cases e : a = c
    · subst e
      rw [ct1_s] at hq
      exact hx i x hi hq
    · rw [ct1_n e] at hq
      exact h.wt a i x ha e hi hq, h.postN, h.post, h.hg, h.fl, h.code⟩
theorem Rel.x_post {c : Nat} {S : gS} {T : CT} (h : Rel c true S T)  : Rel c false (S) (T) :=
  ⟨h.there, h.home, h.reg, h.last, h.vs, h.num, h.vote, h.mark, h.draft, h.up, h.par, h.ep, h.shown, h.src, h.ow, h.lineN, h.line, h.tk, h.wtN, h.wt, (fun e => by cases e), (fun e => by cases e), h.hg, h.fl, h.code⟩
theorem Rel.j_l105 {c : Nat} {S : gS} {T : CT} (h : Rel c false S T) {i : Nat} {y : Int32} : Rel c false (gs_set S 105 i y) (T) :=
  ⟨h.there, h.home, h.reg, h.last, h.vs, h.num, h.vote, h.mark, h.draft, h.up, h.par, h.ep, h.shown, h.src, h.ow, h.lineN, h.line, h.tk, h.wtN, h.wt, (fun e => by cases e), (fun e => by cases e), h.hg, h.fl, h.code⟩
theorem Rel.j_l106 {c : Nat} {S : gS} {T : CT} (h : Rel c false S T) {i : Nat} {y : Int32} : Rel c false (gs_set S 106 i y) (T) :=
  ⟨h.there, h.home, h.reg, h.last, h.vs, h.num, h.vote, h.mark, h.draft, h.up, h.par, h.ep, h.shown, h.src, h.ow, h.lineN, h.line, h.tk, h.wtN, h.wt, (fun e => by cases e), (fun e => by cases e), h.hg, h.fl, h.code⟩
theorem Rel.j_l107 {c : Nat} {S : gS} {T : CT} (h : Rel c false S T) {i : Nat} {y : Int32} : Rel c false (gs_set S 107 i y) (T) :=
  ⟨h.there, h.home, h.reg, h.last, h.vs, h.num, h.vote, h.mark, h.draft, h.up, h.par, h.ep, h.shown, h.src, h.ow, h.lineN, h.line, h.tk, h.wtN, h.wt, (fun e => by cases e), (fun e => by cases e), h.hg, h.fl, h.code⟩
theorem Rel.j_l108 {c : Nat} {S : gS} {T : CT} (h : Rel c false S T) {i : Nat} {y : Int32} : Rel c false (gs_set S 108 i y) (T) :=
  ⟨h.there, h.home, h.reg, h.last, h.vs, h.num, h.vote, h.mark, h.draft, h.up, h.par, h.ep, h.shown, h.src, h.ow, h.lineN, h.line, h.tk, h.wtN, h.wt, (fun e => by cases e), (fun e => by cases e), h.hg, h.fl, h.code⟩
theorem Rel.j_l109 {c : Nat} {S : gS} {T : CT} (h : Rel c false S T) {i : Nat} {y : Int32} : Rel c false (gs_set S 109 i y) (T) :=
  ⟨h.there, h.home, h.reg, h.last, h.vs, h.num, h.vote, h.mark, h.draft, h.up, h.par, h.ep, h.shown, h.src, h.ow, h.lineN, h.line, h.tk, h.wtN, h.wt, (fun e => by cases e), (fun e => by cases e), h.hg, h.fl, h.code⟩
theorem Rel.j_ln {c : Nat} {S : gS} {T : CT} (h : Rel c false S T) {y : Int32} : Rel c false (gs_set S 83 23 y) (T) :=
  ⟨h.there, h.home, h.reg, h.last, h.vs, h.num, h.vote, h.mark, h.draft, h.up, h.par, h.ep, h.shown, h.src, h.ow, h.lineN, h.line, h.tk, h.wtN, h.wt, (fun e => by cases e), (fun e => by cases e), h.hg, h.fl, h.code⟩
theorem Rel.r_post {c : Nat} {S : gS} {T : CT} (h : Rel c false S T) {xs : List (Nat × Int32 × Nat × Nat × Nat)} (hy : S 83 23 = nI xs.length) (hx : ∀ (i : Nat) x, i < 500 → xs[i]? = some x → S 105 i = nI x.1 ∧ S 106 i = x.2.1 ∧ S 107 i = nI x.2.2.1 ∧ S 108 i = nI x.2.2.2.1 ∧ S 109 i = nI x.2.2.2.2) : Rel c true (S) (T.w_post xs) :=
  ⟨h.there, h.home, h.reg, h.last, h.vs, h.num, h.vote, h.mark, h.draft, h.up, h.par, h.ep, h.shown, h.src, h.ow, h.lineN, h.line, h.tk, h.wtN, h.wt, (fun _ => hy), (fun _ => hx), h.hg, h.fl, h.code⟩
