/-! The class: fail, hang, deliver; what commutes. Printed by wip/whole/h8.py -/
theorem ct1_comm {α : Type} {f : Nat → α} {a o : Nat} {x y : α} (h : a ≠ o) : ct1 (ct1 f a x) o y = ct1 (ct1 f o y) a x := by
  funext z
  unfold ct1
  by_cases h1 : z = o
  · rw [if_pos h1, if_neg (by omega), if_pos h1]
  · rw [if_neg h1]
    by_cases h2 : z = a
    · rw [if_pos h2, if_pos h2]
    · rw [if_neg h2, if_neg h2, if_neg h1]
theorem ct1_at {α : Type} {f : Nat → α} {a : Nat} {x : α} : ct1 f a x a = x := if_pos rfl
theorem ct1_ne {α : Type} {f : Nat → α} {a o : Nat} {x : α} (h : a ≠ o) : ct1 f o x a = f a := if_neg h
theorem e1_post {T : CT} {o : Nat} {z : List (Nat × Int32 × Nat × Nat × Nat)} : y_e1 (T.w_post z) o = (y_e1 T o).w_post z := by
  simp only [y_e1, CT.w_par, CT.w_post, CT.there, CT.home, CT.reg, CT.last, CT.vs, CT.num, CT.vote, CT.mark, CT.draft, CT.up, CT.par, CT.ep, CT.shown, CT.src, CT.ow, CT.line, CT.tk, CT.wt, CT.post, CT.hg, CT.fl, CT.code]
theorem e1_shown {T : CT} {o : Nat} {z : Nat → Nat → Nat} : y_e1 (T.w_shown z) o = (y_e1 T o).w_shown z := by
  simp only [y_e1, CT.w_par, CT.w_shown, CT.there, CT.home, CT.reg, CT.last, CT.vs, CT.num, CT.vote, CT.mark, CT.draft, CT.up, CT.par, CT.ep, CT.shown, CT.src, CT.ow, CT.line, CT.tk, CT.wt, CT.post, CT.hg, CT.fl, CT.code]
theorem e1_src {T : CT} {o : Nat} {z : Nat → Nat → Option Nat} : y_e1 (T.w_src z) o = (y_e1 T o).w_src z := by
  simp only [y_e1, CT.w_par, CT.w_src, CT.there, CT.home, CT.reg, CT.last, CT.vs, CT.num, CT.vote, CT.mark, CT.draft, CT.up, CT.par, CT.ep, CT.shown, CT.src, CT.ow, CT.line, CT.tk, CT.wt, CT.post, CT.hg, CT.fl, CT.code]
theorem e1_up {T : CT} {o : Nat} {z : Nat → Bool} : y_e1 (T.w_up z) o = (y_e1 T o).w_up z := by
  simp only [y_e1, CT.w_par, CT.w_up, CT.there, CT.home, CT.reg, CT.last, CT.vs, CT.num, CT.vote, CT.mark, CT.draft, CT.up, CT.par, CT.ep, CT.shown, CT.src, CT.ow, CT.line, CT.tk, CT.wt, CT.post, CT.hg, CT.fl, CT.code]
theorem e1_send {T : CT} {a o k : Nat} {x : Nat × Nat} : y_e1 (y_send T a k x) o = y_send (y_e1 T o) a k x := by
  unfold y_send
  rw [show (y_e1 T o).post = T.post from rfl, show (y_e1 T o).ep = T.ep from rfl]
  by_cases h : T.post.length < 500
  · rw [if_pos h, if_pos h, e1_post]
  · rw [if_neg h, if_neg h]
theorem e1_put {T : CT} {a o p v : Nat} {s : Option Nat} : y_e1 (y_put T a p v s) o = y_put (y_e1 T o) a p v s := by
  unfold y_put
  rw [e1_src, e1_shown, show (y_e1 T o).shown = T.shown from rfl, show (y_e1 T o).src = T.src from rfl]
theorem e1_line {T : CT} {o : Nat} {z : Nat → List (Nat × Nat)} : y_e1 (T.w_line z) o = (y_e1 T o).w_line z := by
  simp only [y_e1, CT.w_par, CT.w_line, CT.there, CT.home, CT.reg, CT.last, CT.vs, CT.num, CT.vote, CT.mark, CT.draft, CT.up, CT.par, CT.ep, CT.shown, CT.src, CT.ow, CT.line, CT.tk, CT.wt, CT.post, CT.hg, CT.fl, CT.code]
theorem e1_tell {T : CT} {a o p v : Nat} : y_e1 (y_tell T a p v) o = y_tell (y_e1 T o) a p v := by
  unfold y_tell
  rw [e1_send, e1_line, show (y_e1 T o).line = T.line from rfl]
theorem e1_set {T : CT} {a o p v : Nat} {s : Option Nat} (h : a ≠ o) : y_e1 (y_set T a p v s) o = y_set (y_e1 T o) a p v s := by
  have e : (y_e1 T o).par a = T.par a := ct1_ne h
  unfold y_set
  rw [e]
  split
  · rw [e1_tell, e1_put]
  · exact e1_put
theorem e2_post {T : CT} {o : Nat} {z : List (Nat × Int32 × Nat × Nat × Nat)} : y_e2 (T.w_post z) o = (y_e2 T o).w_post z := by
  simp only [y_e2, CT.w_tk, CT.w_post, CT.there, CT.home, CT.reg, CT.last, CT.vs, CT.num, CT.vote, CT.mark, CT.draft, CT.up, CT.par, CT.ep, CT.shown, CT.src, CT.ow, CT.line, CT.tk, CT.wt, CT.post, CT.hg, CT.fl, CT.code]
theorem e2_shown {T : CT} {o : Nat} {z : Nat → Nat → Nat} : y_e2 (T.w_shown z) o = (y_e2 T o).w_shown z := by
  simp only [y_e2, CT.w_tk, CT.w_shown, CT.there, CT.home, CT.reg, CT.last, CT.vs, CT.num, CT.vote, CT.mark, CT.draft, CT.up, CT.par, CT.ep, CT.shown, CT.src, CT.ow, CT.line, CT.tk, CT.wt, CT.post, CT.hg, CT.fl, CT.code]
theorem e2_src {T : CT} {o : Nat} {z : Nat → Nat → Option Nat} : y_e2 (T.w_src z) o = (y_e2 T o).w_src z := by
  simp only [y_e2, CT.w_tk, CT.w_src, CT.there, CT.home, CT.reg, CT.last, CT.vs, CT.num, CT.vote, CT.mark, CT.draft, CT.up, CT.par, CT.ep, CT.shown, CT.src, CT.ow, CT.line, CT.tk, CT.wt, CT.post, CT.hg, CT.fl, CT.code]
theorem e2_up {T : CT} {o : Nat} {z : Nat → Bool} : y_e2 (T.w_up z) o = (y_e2 T o).w_up z := by
  simp only [y_e2, CT.w_tk, CT.w_up, CT.there, CT.home, CT.reg, CT.last, CT.vs, CT.num, CT.vote, CT.mark, CT.draft, CT.up, CT.par, CT.ep, CT.shown, CT.src, CT.ow, CT.line, CT.tk, CT.wt, CT.post, CT.hg, CT.fl, CT.code]
theorem e2_send {T : CT} {a o k : Nat} {x : Nat × Nat} : y_e2 (y_send T a k x) o = y_send (y_e2 T o) a k x := by
  unfold y_send
  rw [show (y_e2 T o).post = T.post from rfl, show (y_e2 T o).ep = T.ep from rfl]
  by_cases h : T.post.length < 500
  · rw [if_pos h, if_pos h, e2_post]
  · rw [if_neg h, if_neg h]
theorem e2_put {T : CT} {a o p v : Nat} {s : Option Nat} : y_e2 (y_put T a p v s) o = y_put (y_e2 T o) a p v s := by
  unfold y_put
  rw [e2_src, e2_shown, show (y_e2 T o).shown = T.shown from rfl, show (y_e2 T o).src = T.src from rfl]
theorem e2_line {T : CT} {o : Nat} {z : Nat → List (Nat × Nat)} : y_e2 (T.w_line z) o = (y_e2 T o).w_line z := by
  simp only [y_e2, CT.w_tk, CT.w_line, CT.there, CT.home, CT.reg, CT.last, CT.vs, CT.num, CT.vote, CT.mark, CT.draft, CT.up, CT.par, CT.ep, CT.shown, CT.src, CT.ow, CT.line, CT.tk, CT.wt, CT.post, CT.hg, CT.fl, CT.code]
theorem e2_tell {T : CT} {a o p v : Nat} : y_e2 (y_tell T a p v) o = y_tell (y_e2 T o) a p v := by
  unfold y_tell
  rw [e2_send, e2_line, show (y_e2 T o).line = T.line from rfl]
theorem e2_set {T : CT} {a o p v : Nat} {s : Option Nat} (h : a ≠ o) : y_e2 (y_set T a p v s) o = y_set (y_e2 T o) a p v s := by
  have e : (y_e2 T o).par a = T.par a := rfl
  unfold y_set
  rw [e]
  split
  · rw [e2_tell, e2_put]
  · exact e2_put
theorem e3_post {T : CT} {o : Nat} {z : List (Nat × Int32 × Nat × Nat × Nat)} : y_e3 (T.w_post z) o = (y_e3 T o).w_post z := by
  simp only [y_e3, CT.w_line, CT.w_post, CT.there, CT.home, CT.reg, CT.last, CT.vs, CT.num, CT.vote, CT.mark, CT.draft, CT.up, CT.par, CT.ep, CT.shown, CT.src, CT.ow, CT.line, CT.tk, CT.wt, CT.post, CT.hg, CT.fl, CT.code]
theorem e3_shown {T : CT} {o : Nat} {z : Nat → Nat → Nat} : y_e3 (T.w_shown z) o = (y_e3 T o).w_shown z := by
  simp only [y_e3, CT.w_line, CT.w_shown, CT.there, CT.home, CT.reg, CT.last, CT.vs, CT.num, CT.vote, CT.mark, CT.draft, CT.up, CT.par, CT.ep, CT.shown, CT.src, CT.ow, CT.line, CT.tk, CT.wt, CT.post, CT.hg, CT.fl, CT.code]
theorem e3_src {T : CT} {o : Nat} {z : Nat → Nat → Option Nat} : y_e3 (T.w_src z) o = (y_e3 T o).w_src z := by
  simp only [y_e3, CT.w_line, CT.w_src, CT.there, CT.home, CT.reg, CT.last, CT.vs, CT.num, CT.vote, CT.mark, CT.draft, CT.up, CT.par, CT.ep, CT.shown, CT.src, CT.ow, CT.line, CT.tk, CT.wt, CT.post, CT.hg, CT.fl, CT.code]
theorem e3_up {T : CT} {o : Nat} {z : Nat → Bool} : y_e3 (T.w_up z) o = (y_e3 T o).w_up z := by
  simp only [y_e3, CT.w_line, CT.w_up, CT.there, CT.home, CT.reg, CT.last, CT.vs, CT.num, CT.vote, CT.mark, CT.draft, CT.up, CT.par, CT.ep, CT.shown, CT.src, CT.ow, CT.line, CT.tk, CT.wt, CT.post, CT.hg, CT.fl, CT.code]
theorem e3_send {T : CT} {a o k : Nat} {x : Nat × Nat} : y_e3 (y_send T a k x) o = y_send (y_e3 T o) a k x := by
  unfold y_send
  rw [show (y_e3 T o).post = T.post from rfl, show (y_e3 T o).ep = T.ep from rfl]
  by_cases h : T.post.length < 500
  · rw [if_pos h, if_pos h, e3_post]
  · rw [if_neg h, if_neg h]
theorem e3_put {T : CT} {a o p v : Nat} {s : Option Nat} : y_e3 (y_put T a p v s) o = y_put (y_e3 T o) a p v s := by
  unfold y_put
  rw [e3_src, e3_shown, show (y_e3 T o).shown = T.shown from rfl, show (y_e3 T o).src = T.src from rfl]
theorem e3_line2 {T : CT} {o : Nat} {z : Nat → List (Nat × Nat)} : y_e3 (T.w_line z) o = T.w_line (ct1 z o []) := by
  simp only [y_e3, CT.w_line, CT.there, CT.home, CT.reg, CT.last, CT.vs, CT.num, CT.vote, CT.mark, CT.draft, CT.up, CT.par, CT.ep, CT.shown, CT.src, CT.ow, CT.line, CT.tk, CT.wt, CT.post, CT.hg, CT.fl, CT.code]
theorem e3_line3 {T : CT} {o : Nat} {z : Nat → List (Nat × Nat)} : (y_e3 T o).w_line z = T.w_line z := by
  simp only [y_e3, CT.w_line, CT.there, CT.home, CT.reg, CT.last, CT.vs, CT.num, CT.vote, CT.mark, CT.draft, CT.up, CT.par, CT.ep, CT.shown, CT.src, CT.ow, CT.line, CT.tk, CT.wt, CT.post, CT.hg, CT.fl, CT.code]
theorem e3_tell {T : CT} {a o p v : Nat} (h : a ≠ o) : y_e3 (y_tell T a p v) o = y_tell (y_e3 T o) a p v := by
  have e : (y_e3 T o).line a = T.line a := ct1_ne h
  unfold y_tell
  rw [e3_send, e3_line2, e, ct1_comm h, e3_line3, show (y_e3 T o).line = ct1 T.line o [] from rfl]
theorem e3_set {T : CT} {a o p v : Nat} {s : Option Nat} (h : a ≠ o) : y_e3 (y_set T a p v s) o = y_set (y_e3 T o) a p v s := by
  have e : (y_e3 T o).par a = T.par a := rfl
  unfold y_set
  rw [e]
  split
  · rw [e3_tell h, e3_put]
  · exact e3_put
theorem e4_post {T : CT} {o : Nat} {z : List (Nat × Int32 × Nat × Nat × Nat)} : y_e4 (T.w_post z) o = (y_e4 T o).w_post z := by
  simp only [y_e4, CT.w_wt, CT.w_post, CT.there, CT.home, CT.reg, CT.last, CT.vs, CT.num, CT.vote, CT.mark, CT.draft, CT.up, CT.par, CT.ep, CT.shown, CT.src, CT.ow, CT.line, CT.tk, CT.wt, CT.post, CT.hg, CT.fl, CT.code]
theorem e4_shown {T : CT} {o : Nat} {z : Nat → Nat → Nat} : y_e4 (T.w_shown z) o = (y_e4 T o).w_shown z := by
  simp only [y_e4, CT.w_wt, CT.w_shown, CT.there, CT.home, CT.reg, CT.last, CT.vs, CT.num, CT.vote, CT.mark, CT.draft, CT.up, CT.par, CT.ep, CT.shown, CT.src, CT.ow, CT.line, CT.tk, CT.wt, CT.post, CT.hg, CT.fl, CT.code]
theorem e4_src {T : CT} {o : Nat} {z : Nat → Nat → Option Nat} : y_e4 (T.w_src z) o = (y_e4 T o).w_src z := by
  simp only [y_e4, CT.w_wt, CT.w_src, CT.there, CT.home, CT.reg, CT.last, CT.vs, CT.num, CT.vote, CT.mark, CT.draft, CT.up, CT.par, CT.ep, CT.shown, CT.src, CT.ow, CT.line, CT.tk, CT.wt, CT.post, CT.hg, CT.fl, CT.code]
theorem e4_up {T : CT} {o : Nat} {z : Nat → Bool} : y_e4 (T.w_up z) o = (y_e4 T o).w_up z := by
  simp only [y_e4, CT.w_wt, CT.w_up, CT.there, CT.home, CT.reg, CT.last, CT.vs, CT.num, CT.vote, CT.mark, CT.draft, CT.up, CT.par, CT.ep, CT.shown, CT.src, CT.ow, CT.line, CT.tk, CT.wt, CT.post, CT.hg, CT.fl, CT.code]
theorem e4_send {T : CT} {a o k : Nat} {x : Nat × Nat} : y_e4 (y_send T a k x) o = y_send (y_e4 T o) a k x := by
  unfold y_send
  rw [show (y_e4 T o).post = T.post from rfl, show (y_e4 T o).ep = T.ep from rfl]
  by_cases h : T.post.length < 500
  · rw [if_pos h, if_pos h, e4_post]
  · rw [if_neg h, if_neg h]
theorem e4_put {T : CT} {a o p v : Nat} {s : Option Nat} : y_e4 (y_put T a p v s) o = y_put (y_e4 T o) a p v s := by
  unfold y_put
  rw [e4_src, e4_shown, show (y_e4 T o).shown = T.shown from rfl, show (y_e4 T o).src = T.src from rfl]
theorem e4_line {T : CT} {o : Nat} {z : Nat → List (Nat × Nat)} : y_e4 (T.w_line z) o = (y_e4 T o).w_line z := by
  simp only [y_e4, CT.w_wt, CT.w_line, CT.there, CT.home, CT.reg, CT.last, CT.vs, CT.num, CT.vote, CT.mark, CT.draft, CT.up, CT.par, CT.ep, CT.shown, CT.src, CT.ow, CT.line, CT.tk, CT.wt, CT.post, CT.hg, CT.fl, CT.code]
theorem e4_tell {T : CT} {a o p v : Nat} : y_e4 (y_tell T a p v) o = y_tell (y_e4 T o) a p v := by
  unfold y_tell
  rw [e4_send, e4_line, show (y_e4 T o).line = T.line from rfl]
theorem e4_set {T : CT} {a o p v : Nat} {s : Option Nat} (h : a ≠ o) : y_e4 (y_set T a p v s) o = y_set (y_e4 T o) a p v s := by
  have e : (y_e4 T o).par a = T.par a := rfl
  unfold y_set
  rw [e]
  split
  · rw [e4_tell, e4_put]
  · exact e4_put
theorem end_set {T : CT} {a o p v : Nat} {s : Option Nat} (h : a ≠ o) : y_end (y_set T a p v s) o = y_set (y_end T o) a p v s := by
  unfold y_end
  rw [e1_set h, e3_set h, e2_set h, e4_set h]
theorem e_f1 {T : CT} {o : Nat} : (y_e1 T o).src = T.src ∧ (y_e1 T o).up = T.up ∧ (y_e1 T o).code = T.code := ⟨rfl, rfl, rfl⟩
theorem e_f2 {T : CT} {o : Nat} : (y_e2 T o).src = T.src ∧ (y_e2 T o).up = T.up ∧ (y_e2 T o).code = T.code ∧ (y_e2 T o).par = T.par := ⟨rfl, rfl, rfl, rfl⟩
theorem e_f3 {T : CT} {o : Nat} : (y_e3 T o).src = T.src ∧ (y_e3 T o).up = T.up ∧ (y_e3 T o).code = T.code ∧ (y_e3 T o).par = T.par := ⟨rfl, rfl, rfl, rfl⟩
theorem e_f4 {T : CT} {o : Nat} : (y_e4 T o).src = T.src ∧ (y_e4 T o).up = T.up ∧ (y_e4 T o).code = T.code ∧ (y_e4 T o).par = T.par := ⟨rfl, rfl, rfl, rfl⟩
theorem end_src {T : CT} {o : Nat} : (y_end T o).src = T.src := by
  unfold y_end
  rw [e_f4.1, e_f2.1, e_f3.1, e_f1.1]
theorem end_code {T : CT} {o : Nat} : (y_end T o).code = T.code := by
  unfold y_end
  rw [e_f4.2.2.1, e_f2.2.2.1, e_f3.2.2.1, e_f1.2.2]
theorem end_parf {T : CT} {o : Nat} : (y_end T o).par = ct1 T.par o none := by
  unfold y_end
  rw [e_f4.2.2.2, e_f2.2.2.2, e_f3.2.2.2]
  rfl
theorem end_un {T : CT} {a o : Nat} (h : a ≠ o) : ∀ i, y_end (y_un T a o i) o = y_un (y_end T o) a o i
  | 0 => rfl
  | i + 1 => by
    have ih := end_un (T := T) h i
    show y_end (y_unset (y_un T a o i) a i o) o = y_unset (y_un (y_end T o) a o i) a i o
    rw [← ih]
    unfold y_unset
    have e : (y_end (y_un T a o i) o).src a i = (y_un T a o i).src a i := by rw [end_src]
    rw [e]
    by_cases c : (y_un T a o i).src a i = some o
    · rw [if_pos c, if_pos c, end_set h]
    · rw [if_neg c, if_neg c]
theorem awc_eq {T : CT} {o : Nat} (h : T.par o ≠ some o) : y_awc T o = y_away T o := by
  unfold y_awc y_away
  cases e : T.par o with
  | none => rfl
  | some a =>
    have hne : a ≠ o := fun z => h (by rw [e, z])
    show y_try (y_end (y_un T a o 40) o) a = y_try (y_un (y_end T o) a o 40) a
    rw [end_un hne]
theorem end_up {T : CT} {o : Nat} {z : Nat → Bool} : y_end (T.w_up z) o = (y_end T o).w_up z := by
  unfold y_end
  rw [e1_up, e3_up, e2_up, e4_up]
theorem ch_up {T : CT} {o : Nat} {z : Nat → Bool} : ∀ i, y_ch (T.w_up z) o i = (y_ch T o i).w_up z
  | 0 => rfl
  | i + 1 => by
    have ih := ch_up (T := T) (o := o) (z := z) i
    simp only [y_ch]
    rw [ih, show ((y_ch T o i).w_up z).par i = (y_ch T o i).par i from rfl]
    split
    · rw [end_up]
    · rfl
theorem ps_up {T : CT} {o p w : Nat} {z : Nat → Bool} : (T.w_up z).p_shown o p w = (T.p_shown o p w).w_up z := by
  simp only [CT.p_shown, CT.w_up, CT.w_shown, CT.there, CT.home, CT.reg, CT.last, CT.vs, CT.num, CT.vote, CT.mark, CT.draft, CT.up, CT.par, CT.ep, CT.shown, CT.src, CT.ow, CT.line, CT.tk, CT.wt, CT.post, CT.hg, CT.fl, CT.code]
theorem pr_up {T : CT} {o p : Nat} {w : Option Nat} {z : Nat → Bool} : (T.w_up z).p_src o p w = (T.p_src o p w).w_up z := by
  simp only [CT.p_src, CT.w_up, CT.w_src, CT.there, CT.home, CT.reg, CT.last, CT.vs, CT.num, CT.vote, CT.mark, CT.draft, CT.up, CT.par, CT.ep, CT.shown, CT.src, CT.ow, CT.line, CT.tk, CT.wt, CT.post, CT.hg, CT.fl, CT.code]
theorem po_up {T : CT} {o p : Nat} {w : Bool} {z : Nat → Bool} : (T.w_up z).p_ow o p w = (T.p_ow o p w).w_up z := by
  simp only [CT.p_ow, CT.w_up, CT.w_ow, CT.there, CT.home, CT.reg, CT.last, CT.vs, CT.num, CT.vote, CT.mark, CT.draft, CT.up, CT.par, CT.ep, CT.shown, CT.src, CT.ow, CT.line, CT.tk, CT.wt, CT.post, CT.hg, CT.fl, CT.code]
theorem ps_f {T : CT} {o p w : Nat} : (T.p_shown o p w).up = T.up ∧ (T.p_shown o p w).code = T.code := ⟨rfl, rfl⟩
theorem pr_f {T : CT} {o p : Nat} {w : Option Nat} : (T.p_src o p w).up = T.up ∧ (T.p_src o p w).code = T.code := ⟨rfl, rfl⟩
theorem po_f {T : CT} {o p : Nat} {w : Bool} : (T.p_ow o p w).up = T.up ∧ (T.p_ow o p w).code = T.code := ⟨rfl, rfl⟩
theorem clr_up {T : CT} {o : Nat} {z : Nat → Bool} : ∀ i, y_clr (T.w_up z) o i = (y_clr T o i).w_up z
  | 0 => rfl
  | i + 1 => by
    have ih := clr_up (T := T) (o := o) (z := z) i
    simp only [y_clr]
    rw [ih, ps_up, pr_up, po_up]
theorem end_upf {T : CT} {o : Nat} : (y_end T o).up = T.up := by
  unfold y_end
  rw [e_f4.2.1, e_f2.2.1, e_f3.2.1, e_f1.2.1]
theorem ch_upf {T : CT} {o : Nat} : ∀ i, (y_ch T o i).up = T.up
  | 0 => rfl
  | i + 1 => by
    simp only [y_ch]
    split
    · rw [end_upf]; exact ch_upf i
    · exact ch_upf i
theorem clr_upf {T : CT} {o : Nat} : ∀ i, (y_clr T o i).up = T.up
  | 0 => rfl
  | i + 1 => by
    have ih := clr_upf (T := T) (o := o) i
    simp only [y_clr]
    rw [po_f.1, pr_f.1, ps_f.1]
    exact ih
theorem fail_eq {T : CT} {o : Nat} (h : T.par o ≠ some o) : (y_clr (y_ch (y_awc T o) o 12) o 40).p_up o false = y_fail T o := by
  unfold y_fail y_f0
  rw [awc_eq h]
  show (y_clr (y_ch (y_away T o) o 12) o 40).w_up (ct1 (y_clr (y_ch (y_away T o) o 12) o 40).up o false) = y_clr (y_ch ((y_away T o).w_up (ct1 (y_away T o).up o false)) o 12) o 40
  rw [clr_upf, ch_upf, ch_up, clr_up]
theorem end_parne {T : CT} {o c : Nat} (h : c ≠ o) : (y_end T o).par c = T.par c := by
  rw [end_parf]
  exact ct1_ne h
theorem ch_par {T : CT} {o : Nat} : ∀ i c, i ≤ c → (y_ch T o i).par c = T.par c
  | 0, c, _ => rfl
  | i + 1, c, h => by
    simp only [y_ch]
    split
    · rw [end_parne (by omega)]
      exact ch_par i c (by omega)
    · exact ch_par i c (by omega)
theorem try_par {T : CT} {o : Nat} (h : JI T) (ho : o < 12) : (y_try T o).par = T.par := (all_J ho _ _ h).2
theorem away_par {T : CT} {o : Nat} (hI : JI T) (ho : o < 12) (hP : pot T + 40 ≤ 9000) (c : Nat) : (y_away T o).par c = if c = o then none else T.par c := by
  unfold y_away
  cases e : T.par o with
  | none =>
    show T.par c = _
    split
    · rename_i h; rw [h, e]
    · rfl
  | some a =>
    have ha := hI.1.par o a ho e
    have hP2 : pot (y_end T o) + 40 ≤ 9000 := by have := pot_end (T := T) ho; omega
    show (y_try (y_un (y_end T o) a o 40) a).par c = _
    rw [try_par (un_J (hI.end ho) ha hP2 40 (Nat.le_refl _)).1 ha, (un_fr 40).2.2, end_parf]
    rfl
theorem kids_away {T : CT} {o : Nat} (hI : JI T) (ho : o < 12) (hP : pot T + 40 ≤ 9000) (h : T.par o ≠ some o) : y_kids (y_away T o) o = y_kids T o := by
  unfold y_kids
  refine sN_c (fun c hc => ?_)
  show (if (y_away T o).par c = some o then 1 else 0) = (if T.par c = some o then 1 else 0)
  rw [away_par hI ho hP]
  by_cases e : c = o
  · rw [if_pos e, e, if_neg (by simp), if_neg h]
  · rw [if_neg e]
theorem TL.try {T : CT} {o : Nat} (h : TL T) : TL (y_try T o) := TL.all _ h
/-- what the single steps keep, trying keeps -/
theorem try_ind {Q : CT → Prop} {o : Nat} (h1 : ∀ T p, p < 40 → Q T → T.ow o p = true → Q (y_own T o p)) (h2 : ∀ T c T', c < 12 → Q T → T.par c = some o → y_first T o c = some T' → Q T') {T : CT} (hQ : Q T) : Q (y_try T o) := by
  have w : ∀ (c k : Nat) (T : CT) (m : Bool), c < 12 → T.par c = some o → Q T → Q (y_wh o c k T m).1 := by
    intro c k
    induction k with
    | zero => intro T m _ _ h; exact h
    | succ k ih =>
      intro T m hc hp h
      cases e : y_first T o c with
      | none => simp only [y_wh, e]; exact h
      | some T' =>
        simp only [y_wh, e]
        exact ih T' true hc (by rw [y_first_par e]; exact hp) (h2 T c T' hc h hp e)
  have r1 : ∀ (T : CT) i, i ≤ 40 → Q T → Q (y_r1 T o i).1 := by
    intro T i
    induction i with
    | zero => intro _ h; exact h
    | succ i ih =>
      intro hi h
      simp only [y_r1]
      split
      · rename_i c
        exact h1 _ i (by omega) (ih (by omega) h) c
      · exact ih (by omega) h
  have r2 : ∀ (R : CT × Bool) i, i ≤ 12 → Q R.1 → Q (y_r2 R o i).1 := by
    intro R i
    induction i with
    | zero => intro _ h; exact h
    | succ i ih =>
      intro hi h
      simp only [y_r2]
      split
      · rename_i c
        exact w i _ _ _ (by omega) c (ih (by omega) h)
      · exact ih (by omega) h
  have al : ∀ k T, Q T → Q (y_all o k T) := by
    intro k
    induction k with
    | zero => intro T h; exact h
    | succ k ih =>
      intro T h
      have hr : Q (y_rd T o).1 := r2 _ 12 (Nat.le_refl _) (r1 T 40 (Nat.le_refl _) h)
      simp only [y_all]
      split
      · exact ih _ hr
      · exact hr
  exact al _ T hQ
theorem try_code {T : CT} {o : Nat} : (y_try T o).code = T.code := try_ind (Q := fun G => G.code = T.code) (fun G p _ h _ => y_own_code.trans h) (fun G c T' _ h _ e => (y_first_code e).trans h) rfl
theorem try_home {T : CT} {o : Nat} : (y_try T o).home = T.home := try_ind (Q := fun G => G.home = T.home) (fun G p _ h _ => y_own_home.trans h) (fun G c T' _ h _ e => (y_first_home e).trans h) rfl
theorem try_there {T : CT} {o : Nat} : (y_try T o).there = T.there := try_ind (Q := fun G => G.there = T.there) (fun G p _ h _ => y_own_there.trans h) (fun G c T' _ h _ e => (y_first_there e).trans h) rfl
theorem try_last {T : CT} {o : Nat} : (y_try T o).last = T.last := try_ind (Q := fun G => G.last = T.last) (fun G p _ h _ => y_own_last.trans h) (fun G c T' _ h _ e => (y_first_last e).trans h) rfl
theorem try_up {T : CT} {o : Nat} : (y_try T o).up = T.up := try_ind (Q := fun G => G.up = T.up) (fun G p _ h _ => y_own_up.trans h) (fun G c T' _ h _ e => (y_first_up e).trans h) rfl
/-- what another office includes stays -/
def SO (o : Nat) (T T' : CT) : Prop := ∀ x p, x ≠ o → T'.shown x p = T.shown x p ∧ T'.src x p = T.src x p ∧ T'.ow x p = T.ow x p
theorem SO.set {o p w : Nat} {s : Option Nat} {T : CT} : SO o T (y_set T o p w s) := by
  intro x q hx
  rw [y_set_shown, y_set_src, y_set_ow]
  exact ⟨if_neg (fun e => hx e.1), if_neg (fun e => hx e.1), rfl⟩
theorem SO.trans {o : Nat} {T T' U : CT} (h : SO o T T') (h' : SO o T' U) : SO o T U := by
  intro x p hx
  obtain ⟨a1, a2, a3⟩ := h x p hx
  obtain ⟨b1, b2, b3⟩ := h' x p hx
  exact ⟨b1.trans a1, b2.trans a2, b3.trans a3⟩
theorem SO.own {o p : Nat} {T : CT} : SO o T (y_own T o p) := by
  unfold y_own
  split
  · intro x q hx
    obtain ⟨a1, a2, a3⟩ := SO.set (T := T.w_ow (ct2 T.ow o p false)) (o := o) (p := p) (w := T.last p) (s := some o) x q hx
    exact ⟨a1, a2, a3.trans (if_neg (fun e => hx e.1))⟩
  · exact fun x q hx => ⟨rfl, rfl, if_neg (fun e => hx e.1)⟩
theorem SO.first {o c : Nat} {T T' : CT} (h : y_first T o c = some T') : SO o T T' := by
  obtain ⟨x, xs, -, -, -, e⟩ := y_first_wt h
  rw [e]
  intro y q hy
  exact SO.set (T := T.w_wt (ct1 T.wt c xs)) y q hy
theorem SO.unset {o p j : Nat} {T : CT} : SO o T (y_unset T o p j) := by
  unfold y_unset
  split
  · exact SO.set
  · exact fun x q _ => ⟨rfl, rfl, rfl⟩
theorem SO.try {o : Nat} {T : CT} : SO o T (y_try T o) := try_ind (Q := fun G => SO o T G) (fun G p _ h _ => h.trans SO.own) (fun G c T' _ h _ e => h.trans (SO.first e)) (fun x q _ => ⟨rfl, rfl, rfl⟩)
theorem un_code {T : CT} {a o : Nat} : ∀ i, (y_un T a o i).code = T.code
  | 0 => rfl
  | i + 1 => y_unset_code.trans (un_code i)
theorem away_code {T : CT} {o : Nat} : (y_away T o).code = T.code := by
  unfold y_away
  cases T.par o with
  | none => rfl
  | some a =>
    show (y_try (y_un (y_end T o) a o 40) a).code = _
    rw [try_code, un_code, end_code]
theorem ch_code {T : CT} {o : Nat} : ∀ i, (y_ch T o i).code = T.code
  | 0 => rfl
  | i + 1 => by
    simp only [y_ch]
    split
    · rw [end_code]; exact ch_code i
    · exact ch_code i
theorem clr_code {T : CT} {o : Nat} : ∀ i, (y_clr T o i).code = T.code
  | 0 => rfl
  | i + 1 => by
    simp only [y_clr]
    rw [po_f.2, pr_f.2, ps_f.2]
    exact clr_code i
theorem fail_code {T : CT} {o : Nat} : (y_fail T o).code = T.code := by
  unfold y_fail
  rw [clr_code, ch_code]
  unfold y_f0
  show ((y_away T o).w_up _).code = _
  rw [show ∀ (G : CT) z, (G.w_up z).code = G.code from fun _ _ => rfl]
  exact away_code
