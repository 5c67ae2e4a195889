/-! The class's cells. v: the numbers of the precincts', versions' and their votes' cells; g: of the 25 lists (0 the post, 1 + o a line, 13 + o what waits) the numbers, lengths and contents of their arrays, and the three rows of seats. Printed by wip/whole/rc.py -/
abbrev gV : Type := (Nat → Nat) × (Nat → Nat) × (Nat → Nat)
def gV.pid (v : gV) : Nat → Nat := v.1
def gV.vid (v : gV) : Nat → Nat := v.2.1
def gV.wid (v : gV) : Nat → Nat := v.2.2
abbrev gG : Type := (Nat → Nat) × (Nat → Nat) × (Nat → Nat → Value) × (Nat → Int64) × (Nat → Int64) × (Nat → Int32)
def gG.aid (g : gG) : Nat → Nat := g.1
def gG.cap (g : gG) : Nat → Nat := g.2.1
def gG.el (g : gG) : Nat → Nat → Value := g.2.2.1
def gG.sm (g : gG) : Nat → Int64 := g.2.2.2.1
def gG.rs (g : gG) : Nat → Int64 := g.2.2.2.2.1
def gG.st (g : gG) : Nat → Int32 := g.2.2.2.2.2
def gG.w_sm (g : gG) (z : Nat → Int64) : gG := (g.aid, g.cap, g.el, z, g.rs, g.st)
def gG.w_rs (g : gG) (z : Nat → Int64) : gG := (g.aid, g.cap, g.el, g.sm, z, g.st)
def gG.w_st (g : gG) (z : Nat → Int32) : gG := (g.aid, g.cap, g.el, g.sm, g.rs, z)
def gG.w_l (g : gG) (j a c : Nat) (e : Nat → Value) : gG := (ct1 g.aid j a, ct1 g.cap j c, ct1 g.el j e, g.sm, g.rs, g.st)
/-- a version, or null for the number 0 -/
def vref (v : gV) (w : Nat) : Value := if w = 0 then .null else .ref (v.vid w)
def pref (v : gV) (T : CT) (p : Nat) : Value := if T.there p = true then .ref (v.pid p) else .null
theorem vref_0 {v : gV} {w : Nat} (h : w = 0) : vref v w = .null := if_pos h
theorem vref_s {v : gV} {w : Nat} (h : ¬ w = 0) : vref v w = .ref (v.vid w) := if_neg h
theorem vref_isr (v : gV) (w : Nat) : gz_isr (vref v w) := by
  by_cases h : w = 0
  · rw [vref_0 h]; exact gz_isr.n
  · rw [vref_s h]; exact gz_isr.r _
theorem vref_cat (v : gV) (w : Nat) : (vref v w).category = 1 := by
  by_cases h : w = 0
  · rw [vref_0 h]; rfl
  · rw [vref_s h]; rfl
theorem pref_t {v : gV} {T : CT} {p : Nat} (h : T.there p = true) : pref v T p = .ref (v.pid p) := if_pos h
theorem pref_f {v : gV} {T : CT} {p : Nat} (h : T.there p = false) : pref v T p = .null := if_neg (by rw [h]; exact Bool.false_ne_true)
theorem pref_isr (v : gV) (T : CT) (p : Nat) : gz_isr (pref v T p) := by
  cases h : T.there p
  · rw [pref_f h]; exact gz_isr.n
  · rw [pref_t h]; exact gz_isr.r _
theorem pref_cat (v : gV) (T : CT) (p : Nat) : (pref v T p).category = 1 := by
  cases h : T.there p
  · rw [pref_f h]; rfl
  · rw [pref_t h]; rfl
/-- a change; a letter -/
def IsC (v : gV) (M : gzM) (z : Value) (x : Nat × Nat) : Prop := ∃ k, z = .ref k ∧ M k = some (.inr (1, [.int (nI x.1), vref v x.2]))
def IsL (v : gV) (M : gzM) (z : Value) (x : Nat × Int32 × Nat × Nat × Nat) : Prop := ∃ k c, z = .ref k ∧ M k = some (.inr (2, [.int (nI x.1), .int x.2.1, .int (nI x.2.2.1), .ref c])) ∧ M c = some (.inr (1, [.int (nI x.2.2.2.1), vref v x.2.2.2.2]))
def FX (v : gV) (g : gG) (T : CT) (M : gzM) : Prop :=
  (M 3 = some (.inr (0, [.ref 4, .ref 5, .ref 6, .ref 7, .ref 8, .ref 9, .ref 10, .int (nI T.vs), .int (nI T.hg), .int (nI T.fl)]))) ∧
  (∃ f, M 4 = some (.inl (5, 40, f)) ∧ ∀ p, p < 40 → f p = pref v T p) ∧
  (∃ f, M 5 = some (.inl (6, 12, f)) ∧ ∀ o, o < 12 → f o = .ref (11 + 6 * o)) ∧
  (∃ f, M 7 = some (.inl (1, 6, f)) ∧ ∀ i, i < 6 → f i = .int (T.draft i)) ∧
  (∃ f, M 8 = some (.inl (2, 6, f)) ∧ ∀ i, i < 6 → f i = .long (g.sm i)) ∧
  (∃ f, M 9 = some (.inl (2, 6, f)) ∧ ∀ i, i < 6 → f i = .long (g.rs i)) ∧
  (∃ f, M 10 = some (.inl (1, 6, f)) ∧ ∀ i, i < 6 → f i = .int (g.st i)) ∧
  (∀ o, o < 12 → M (11 + 6 * o) = some (.inr (3, [.int (nI o), .ref (12 + 6 * o), .ref (13 + 6 * o), .ref (14 + 6 * o), .ref (15 + 6 * o), .ref (16 + 6 * o), .int (oI (T.par o)), .int (T.ep o), .int (nI (T.tk o)), .int (bI (T.up o))]))) ∧
  (∀ o, o < 12 → ∃ f, M (12 + 6 * o) = some (.inl (4, 40, f)) ∧ ∀ p, p < 40 → f p = vref v (T.shown o p)) ∧
  (∀ o, o < 12 → ∃ f, M (13 + 6 * o) = some (.inl (1, 40, f)) ∧ ∀ p, p < 40 → f p = .int (oI (T.src o p))) ∧
  (∀ o, o < 12 → ∃ f, M (14 + 6 * o) = some (.inl (3, 40, f)) ∧ ∀ p, p < 40 → f p = .int (bI (T.ow o p))) ∧
  (∃ mc, M 6 = some (.inr (7, [.ref (g.aid 0), .int (nI T.post.length), .int mc]))) ∧
  (∀ o, o < 12 → ∃ mc, M (15 + 6 * o) = some (.inr (7, [.ref (g.aid (1 + o)), .int (nI (T.line o).length), .int mc]))) ∧
  (∀ o, o < 12 → ∃ mc, M (16 + 6 * o) = some (.inr (7, [.ref (g.aid (13 + o)), .int (nI (T.wt o).length), .int mc])))
theorem FX.house {v : gV} {g : gG} {T : CT} {M : gzM} (h : FX v g T M) : M 3 = some (.inr (0, [.ref 4, .ref 5, .ref 6, .ref 7, .ref 8, .ref 9, .ref 10, .int (nI T.vs), .int (nI T.hg), .int (nI T.fl)])) := h.1
theorem FX.precs {v : gV} {g : gG} {T : CT} {M : gzM} (h : FX v g T M) : ∃ f, M 4 = some (.inl (5, 40, f)) ∧ ∀ p, p < 40 → f p = pref v T p := h.2.1
theorem FX.offs {v : gV} {g : gG} {T : CT} {M : gzM} (h : FX v g T M) : ∃ f, M 5 = some (.inl (6, 12, f)) ∧ ∀ o, o < 12 → f o = .ref (11 + 6 * o) := h.2.2.1
theorem FX.draft {v : gV} {g : gG} {T : CT} {M : gzM} (h : FX v g T M) : ∃ f, M 7 = some (.inl (1, 6, f)) ∧ ∀ i, i < 6 → f i = .int (T.draft i) := h.2.2.2.1
theorem FX.sm {v : gV} {g : gG} {T : CT} {M : gzM} (h : FX v g T M) : ∃ f, M 8 = some (.inl (2, 6, f)) ∧ ∀ i, i < 6 → f i = .long (g.sm i) := h.2.2.2.2.1
theorem FX.rs {v : gV} {g : gG} {T : CT} {M : gzM} (h : FX v g T M) : ∃ f, M 9 = some (.inl (2, 6, f)) ∧ ∀ i, i < 6 → f i = .long (g.rs i) := h.2.2.2.2.2.1
theorem FX.st {v : gV} {g : gG} {T : CT} {M : gzM} (h : FX v g T M) : ∃ f, M 10 = some (.inl (1, 6, f)) ∧ ∀ i, i < 6 → f i = .int (g.st i) := h.2.2.2.2.2.2.1
theorem FX.off {v : gV} {g : gG} {T : CT} {M : gzM} (h : FX v g T M) : ∀ o, o < 12 → M (11 + 6 * o) = some (.inr (3, [.int (nI o), .ref (12 + 6 * o), .ref (13 + 6 * o), .ref (14 + 6 * o), .ref (15 + 6 * o), .ref (16 + 6 * o), .int (oI (T.par o)), .int (T.ep o), .int (nI (T.tk o)), .int (bI (T.up o))])) := h.2.2.2.2.2.2.2.1
theorem FX.shown {v : gV} {g : gG} {T : CT} {M : gzM} (h : FX v g T M) : ∀ o, o < 12 → ∃ f, M (12 + 6 * o) = some (.inl (4, 40, f)) ∧ ∀ p, p < 40 → f p = vref v (T.shown o p) := h.2.2.2.2.2.2.2.2.1
theorem FX.src {v : gV} {g : gG} {T : CT} {M : gzM} (h : FX v g T M) : ∀ o, o < 12 → ∃ f, M (13 + 6 * o) = some (.inl (1, 40, f)) ∧ ∀ p, p < 40 → f p = .int (oI (T.src o p)) := h.2.2.2.2.2.2.2.2.2.1
theorem FX.ow {v : gV} {g : gG} {T : CT} {M : gzM} (h : FX v g T M) : ∀ o, o < 12 → ∃ f, M (14 + 6 * o) = some (.inl (3, 40, f)) ∧ ∀ p, p < 40 → f p = .int (bI (T.ow o p)) := h.2.2.2.2.2.2.2.2.2.2.1
theorem FX.loP {v : gV} {g : gG} {T : CT} {M : gzM} (h : FX v g T M) : ∃ mc, M 6 = some (.inr (7, [.ref (g.aid 0), .int (nI T.post.length), .int mc])) := h.2.2.2.2.2.2.2.2.2.2.2.1
theorem FX.loL {v : gV} {g : gG} {T : CT} {M : gzM} (h : FX v g T M) : ∀ o, o < 12 → ∃ mc, M (15 + 6 * o) = some (.inr (7, [.ref (g.aid (1 + o)), .int (nI (T.line o).length), .int mc])) := h.2.2.2.2.2.2.2.2.2.2.2.2.1
theorem FX.loW {v : gV} {g : gG} {T : CT} {M : gzM} (h : FX v g T M) : ∀ o, o < 12 → ∃ mc, M (16 + 6 * o) = some (.inr (7, [.ref (g.aid (13 + o)), .int (nI (T.wt o).length), .int mc])) := h.2.2.2.2.2.2.2.2.2.2.2.2.2
def DY (M0 : gzM) (v : gV) (g : gG) (T : CT) (M : gzM) (n : Nat) : Prop :=
  (∀ j, j < 25 → M (g.aid j) = some (.inl (7, g.cap j, g.el j)) ∧ (g.cap j = 0 → g.aid j = 1) ∧ (g.cap j ≠ 0 → 113 < g.aid j)) ∧
  (T.post.length ≤ g.cap 0 ∧ g.cap 0 ≤ 760) ∧
  (∀ o, o < 12 → (T.line o).length ≤ g.cap (1 + o) ∧ g.cap (1 + o) ≤ 13510) ∧
  (∀ o, o < 12 → (T.wt o).length ≤ g.cap (13 + o) ∧ g.cap (13 + o) ≤ 3010) ∧
  (∀ i j, i < 25 → j < 25 → g.cap i ≠ 0 → g.aid i = g.aid j → i = j) ∧
  (∀ (i : Nat) x, T.post[i]? = some x → IsL v M (g.el 0 i) x) ∧
  (∀ (o i : Nat) x, o < 12 → (T.line o)[i]? = some x → IsC v M (g.el (1 + o) i) x) ∧
  (∀ (o i : Nat) x, o < 12 → (T.wt o)[i]? = some x → IsC v M (g.el (13 + o) i) x) ∧
  (∀ w, 0 < w → w ≤ T.vs → M (v.vid w) = some (.inr (5, [.int (T.num w), .ref (v.wid w), .int (T.mark w)])) ∧ 113 < v.wid w ∧ ∃ f, M (v.wid w) = some (.inl (1, 6, f)) ∧ ∀ i, i < 6 → f i = .int (T.vote w i)) ∧
  (∀ p, p < 40 → T.there p = true → M (v.pid p) = some (.inr (4, [.int (T.reg p), .int (nI (T.home p)), vref v (T.last p)]))) ∧
  (∀ p, p < 40 → T.there p = true → 113 < v.pid p) ∧
  (∀ p q, p < 40 → q < 40 → T.there p = true → T.there q = true → v.pid p = v.pid q → p = q) ∧
  (∀ k, n ≤ k → M k = none) ∧
  (114 ≤ n) ∧
  (∀ k, k < 3 ∨ (82 < k ∧ k < 114) → M k = M0 k) ∧
  (∃ f, M0 1 = some (.inl (7, 0, f)))
theorem DY.la {M0 : gzM} {v : gV} {g : gG} {T : CT} {M : gzM} {n : Nat} (h : DY M0 v g T M n) : ∀ j, j < 25 → M (g.aid j) = some (.inl (7, g.cap j, g.el j)) ∧ (g.cap j = 0 → g.aid j = 1) ∧ (g.cap j ≠ 0 → 113 < g.aid j) := h.1
theorem DY.capP {M0 : gzM} {v : gV} {g : gG} {T : CT} {M : gzM} {n : Nat} (h : DY M0 v g T M n) : T.post.length ≤ g.cap 0 ∧ g.cap 0 ≤ 760 := h.2.1
theorem DY.capL {M0 : gzM} {v : gV} {g : gG} {T : CT} {M : gzM} {n : Nat} (h : DY M0 v g T M n) : ∀ o, o < 12 → (T.line o).length ≤ g.cap (1 + o) ∧ g.cap (1 + o) ≤ 13510 := h.2.2.1
theorem DY.capW {M0 : gzM} {v : gV} {g : gG} {T : CT} {M : gzM} {n : Nat} (h : DY M0 v g T M n) : ∀ o, o < 12 → (T.wt o).length ≤ g.cap (13 + o) ∧ g.cap (13 + o) ≤ 3010 := h.2.2.2.1
theorem DY.ainj {M0 : gzM} {v : gV} {g : gG} {T : CT} {M : gzM} {n : Nat} (h : DY M0 v g T M n) : ∀ i j, i < 25 → j < 25 → g.cap i ≠ 0 → g.aid i = g.aid j → i = j := h.2.2.2.2.1
theorem DY.postE {M0 : gzM} {v : gV} {g : gG} {T : CT} {M : gzM} {n : Nat} (h : DY M0 v g T M n) : ∀ (i : Nat) x, T.post[i]? = some x → IsL v M (g.el 0 i) x := h.2.2.2.2.2.1
theorem DY.lineE {M0 : gzM} {v : gV} {g : gG} {T : CT} {M : gzM} {n : Nat} (h : DY M0 v g T M n) : ∀ (o i : Nat) x, o < 12 → (T.line o)[i]? = some x → IsC v M (g.el (1 + o) i) x := h.2.2.2.2.2.2.1
theorem DY.wtE {M0 : gzM} {v : gV} {g : gG} {T : CT} {M : gzM} {n : Nat} (h : DY M0 v g T M n) : ∀ (o i : Nat) x, o < 12 → (T.wt o)[i]? = some x → IsC v M (g.el (13 + o) i) x := h.2.2.2.2.2.2.2.1
theorem DY.ver {M0 : gzM} {v : gV} {g : gG} {T : CT} {M : gzM} {n : Nat} (h : DY M0 v g T M n) : ∀ w, 0 < w → w ≤ T.vs → M (v.vid w) = some (.inr (5, [.int (T.num w), .ref (v.wid w), .int (T.mark w)])) ∧ 113 < v.wid w ∧ ∃ f, M (v.wid w) = some (.inl (1, 6, f)) ∧ ∀ i, i < 6 → f i = .int (T.vote w i) := h.2.2.2.2.2.2.2.2.1
theorem DY.pobj {M0 : gzM} {v : gV} {g : gG} {T : CT} {M : gzM} {n : Nat} (h : DY M0 v g T M n) : ∀ p, p < 40 → T.there p = true → M (v.pid p) = some (.inr (4, [.int (T.reg p), .int (nI (T.home p)), vref v (T.last p)])) := h.2.2.2.2.2.2.2.2.2.1
theorem DY.pgt {M0 : gzM} {v : gV} {g : gG} {T : CT} {M : gzM} {n : Nat} (h : DY M0 v g T M n) : ∀ p, p < 40 → T.there p = true → 113 < v.pid p := h.2.2.2.2.2.2.2.2.2.2.1
theorem DY.pinj {M0 : gzM} {v : gV} {g : gG} {T : CT} {M : gzM} {n : Nat} (h : DY M0 v g T M n) : ∀ p q, p < 40 → q < 40 → T.there p = true → T.there q = true → v.pid p = v.pid q → p = q := h.2.2.2.2.2.2.2.2.2.2.2.1
theorem DY.fresh {M0 : gzM} {v : gV} {g : gG} {T : CT} {M : gzM} {n : Nat} (h : DY M0 v g T M n) : ∀ k, n ≤ k → M k = none := h.2.2.2.2.2.2.2.2.2.2.2.2.1
theorem DY.n114 {M0 : gzM} {v : gV} {g : gG} {T : CT} {M : gzM} {n : Nat} (h : DY M0 v g T M n) : 114 ≤ n := h.2.2.2.2.2.2.2.2.2.2.2.2.2.1
theorem DY.frame {M0 : gzM} {v : gV} {g : gG} {T : CT} {M : gzM} {n : Nat} (h : DY M0 v g T M n) : ∀ k, k < 3 ∨ (82 < k ∧ k < 114) → M k = M0 k := h.2.2.2.2.2.2.2.2.2.2.2.2.2.2.1
theorem DY.emp {M0 : gzM} {v : gV} {g : gG} {T : CT} {M : gzM} {n : Nat} (h : DY M0 v g T M n) : ∃ f, M0 1 = some (.inl (7, 0, f)) := h.2.2.2.2.2.2.2.2.2.2.2.2.2.2.2
def ME (b : Nat) (g : gG) (T : CT) (nc ns : Nat) : Prop :=
  (nc + 2 * (potW T + potO T) ≤ b + sN 25 g.cap) ∧
  (ns + 14 * (potW T + potO T) ≤ 300000 + 7 * b + 4 * sN 25 g.cap)
theorem ME.c {b : Nat} {g : gG} {T : CT} {nc ns : Nat} (h : ME b g T nc ns) : nc + 2 * (potW T + potO T) ≤ b + sN 25 g.cap := h.1
theorem ME.s {b : Nat} {g : gG} {T : CT} {nc ns : Nat} (h : ME b g T nc ns) : ns + 14 * (potW T + potO T) ≤ 300000 + 7 * b + 4 * sN 25 g.cap := h.2
def RC (M0 : gzM) (b : Nat) (v : gV) (g : gG) (T : CT) (M : gzM) (n nc ns : Nat) : Prop := FX v g T M ∧ DY M0 v g T M n ∧ ME b g T nc ns
/-- changes, letters, versions stay what they are -/
def Keep (M M' : gzM) : Prop := ∀ k ci fs, ci = 1 ∨ ci = 2 ∨ ci = 5 → M k = some (.inr (ci, fs)) → M' k = some (.inr (ci, fs))
theorem IsC.keep {v : gV} {M M' : gzM} {z : Value} {x : Nat × Nat} (h : IsC v M z x) (hK : Keep M M') : IsC v M' z x := by
  obtain ⟨k, e, hk⟩ := h
  exact ⟨k, e, hK k 1 _ (Or.inl rfl) hk⟩
theorem IsL.keep {v : gV} {M M' : gzM} {z : Value} {x : Nat × Int32 × Nat × Nat × Nat} (h : IsL v M z x) (hK : Keep M M') : IsL v M' z x := by
  obtain ⟨k, c, e, hk, hc⟩ := h
  exact ⟨k, c, e, hK k 2 _ (Or.inr (Or.inl rfl)) hk, hK c 1 _ (Or.inl rfl) hc⟩
/-- the fixed cells are none of those -/
theorem FX.cls {v : gV} {g : gG} {T : CT} {M : gzM} (h : FX v g T M) {k : Nat} (h3 : 3 ≤ k) (h83 : k < 83) : ∀ ci fs, M k = some (.inr (ci, fs)) → ci = 0 ∨ ci = 3 ∨ ci = 7 := by
  intro ci fs hk
  by_cases e11 : k < 11
  · obtain ⟨f4, h4, -⟩ := h.precs
    obtain ⟨f5, h5, -⟩ := h.offs
    obtain ⟨m6, h6⟩ := h.loP
    obtain ⟨f7, h7, -⟩ := h.draft
    obtain ⟨f8, h8, -⟩ := h.sm
    obtain ⟨f9, h9, -⟩ := h.rs
    obtain ⟨f10, h10, -⟩ := h.st
    have hk2 : k = 3 ∨ k = 4 ∨ k = 5 ∨ k = 6 ∨ k = 7 ∨ k = 8 ∨ k = 9 ∨ k = 10 := by omega
    rcases hk2 with e | e | e | e | e | e | e | e
    · rw [e, h.house] at hk; cases hk; exact Or.inl rfl
    · rw [e, h4] at hk; cases hk
    · rw [e, h5] at hk; cases hk
    · rw [e, h6] at hk; cases hk; exact Or.inr (Or.inr rfl)
    · rw [e, h7] at hk; cases hk
    · rw [e, h8] at hk; cases hk
    · rw [e, h9] at hk; cases hk
    · rw [e, h10] at hk; cases hk
  · have ho : (k - 11) / 6 < 12 := by omega
    obtain ⟨f12, h12, -⟩ := h.shown _ ho
    obtain ⟨f13, h13, -⟩ := h.src _ ho
    obtain ⟨f14, h14, -⟩ := h.ow _ ho
    obtain ⟨m15, h15⟩ := h.loL _ ho
    obtain ⟨m16, h16⟩ := h.loW _ ho
    have h11 := h.off _ ho
    have hk2 : k = 11 + 6 * ((k - 11) / 6) ∨ k = 12 + 6 * ((k - 11) / 6) ∨ k = 13 + 6 * ((k - 11) / 6) ∨ k = 14 + 6 * ((k - 11) / 6) ∨ k = 15 + 6 * ((k - 11) / 6) ∨ k = 16 + 6 * ((k - 11) / 6) := by omega
    generalize (k - 11) / 6 = o at *
    rcases hk2 with e | e | e | e | e | e
    · rw [e, h11] at hk; cases hk; exact Or.inr (Or.inl rfl)
    · rw [e, h12] at hk; cases hk
    · rw [e, h13] at hk; cases hk
    · rw [e, h14] at hk; cases hk
    · rw [e, h15] at hk; cases hk; exact Or.inr (Or.inr rfl)
    · rw [e, h16] at hk; cases hk; exact Or.inr (Or.inr rfl)
theorem FX.keep {v : gV} {g : gG} {T : CT} {M M' : gzM} (h : FX v g T M) (hM : ∀ k, 3 ≤ k → k < 83 → M' k = M k) : FX v g T M' := by
  refine ⟨(hM _ (by omega) (by omega)).trans h.house, ?_, ?_, ?_, ?_, ?_, ?_, fun o ho => (hM _ (by omega) (by omega)).trans (h.off o ho), fun o ho => ?_, fun o ho => ?_, fun o ho => ?_, ?_, fun o ho => ?_, fun o ho => ?_⟩
  · rw [hM _ (by omega) (by omega)]; exact h.precs
  · rw [hM _ (by omega) (by omega)]; exact h.offs
  · rw [hM _ (by omega) (by omega)]; exact h.draft
  · rw [hM _ (by omega) (by omega)]; exact h.sm
  · rw [hM _ (by omega) (by omega)]; exact h.rs
  · rw [hM _ (by omega) (by omega)]; exact h.st
  · rw [hM _ (by omega) (by omega)]; exact h.shown o ho
  · rw [hM _ (by omega) (by omega)]; exact h.src o ho
  · rw [hM _ (by omega) (by omega)]; exact h.ow o ho
  · rw [hM _ (by omega) (by omega)]; exact h.loP
  · rw [hM _ (by omega) (by omega)]; exact h.loL o ho
  · rw [hM _ (by omega) (by omega)]; exact h.loW o ho
theorem FX.ofT {v : gV} {g : gG} {T T' : CT} {M : gzM} (h : FX v g T M) (e1 : T'.there = T.there) (e2 : T'.vs = T.vs) (e3 : T'.hg = T.hg) (e4 : T'.fl = T.fl) (e5 : T'.draft = T.draft) (e6 : T'.par = T.par) (e7 : T'.ep = T.ep) (e8 : T'.tk = T.tk) (e9 : T'.up = T.up) (e10 : T'.shown = T.shown) (e11 : T'.src = T.src) (e12 : T'.ow = T.ow) (e13 : T'.post = T.post) (e14 : T'.line = T.line) (e15 : T'.wt = T.wt) : FX v g T' M := by
  unfold FX pref
  rw [e1, e2, e3, e4, e5, e6, e7, e8, e9, e10, e11, e12, e13, e14, e15]
  exact h
theorem DY.ofT {M0 : gzM} {v : gV} {g : gG} {T T' : CT} {M : gzM} {n : Nat} (h : DY M0 v g T M n) (e1 : T'.there = T.there) (e2 : T'.vs = T.vs) (e3 : T'.num = T.num) (e4 : T'.mark = T.mark) (e5 : T'.vote = T.vote) (e6 : T'.reg = T.reg) (e7 : T'.home = T.home) (e8 : T'.last = T.last) (e13 : T'.post = T.post) (e14 : T'.line = T.line) (e15 : T'.wt = T.wt) : DY M0 v g T' M n := by
  unfold DY
  rw [e1, e2, e3, e4, e5, e6, e7, e8, e13, e14, e15]
  exact h
theorem ME.ofT {b : Nat} {g : gG} {T T' : CT} {nc ns : Nat} (h : ME b g T nc ns) (e1 : T'.ow = T.ow) (e2 : T'.wt = T.wt) : ME b g T' nc ns := by
  unfold ME potW potO
  rw [e1, e2]
  exact h
theorem ME.le {b b' : Nat} {g : gG} {T : CT} {nc ns : Nat} (h : ME b g T nc ns) (hb : b ≤ b') : ME b' g T nc ns := ⟨by have := h.c; omega, by have := h.s; omega⟩
theorem RC.le {M0 : gzM} {b b' : Nat} {v : gV} {g : gG} {T : CT} {M : gzM} {n nc ns : Nat} (h : RC M0 b v g T M n nc ns) (hb : b ≤ b') : RC M0 b' v g T M n nc ns := ⟨h.1, h.2.1, h.2.2.le hb⟩
theorem RC.code {M0 : gzM} {b : Nat} {v : gV} {g : gG} {T : CT} {M : gzM} {n nc ns : Nat} (h : RC M0 b v g T M n nc ns) (x : Int32) : RC M0 b v g (T.w_code x) M n nc ns := ⟨h.1.ofT rfl rfl rfl rfl rfl rfl rfl rfl rfl rfl rfl rfl rfl rfl rfl, h.2.1.ofT rfl rfl rfl rfl rfl rfl rfl rfl rfl rfl rfl, h.2.2.ofT rfl rfl⟩
theorem RC.uncode {M0 : gzM} {b : Nat} {v : gV} {g : gG} {T : CT} {M : gzM} {n nc ns : Nat} {x : Int32} (h : RC M0 b v g (T.w_code x) M n nc ns) : RC M0 b v g T M n nc ns := ⟨h.1.ofT rfl rfl rfl rfl rfl rfl rfl rfl rfl rfl rfl rfl rfl rfl rfl, h.2.1.ofT rfl rfl rfl rfl rfl rfl rfl rfl rfl rfl rfl, h.2.2.ofT rfl rfl⟩
/-- the cells behind stay when the list or the object at k does not touch them -/
theorem DY.up {M0 : gzM} {v : gV} {g : gG} {T : CT} {M M' : gzM} {n n' : Nat} (h : DY M0 v g T M n) (hK : Keep M M') (ha : ∀ j, j < 25 → M' (g.aid j) = M (g.aid j)) (hw : ∀ w, 0 < w → w ≤ T.vs → M' (v.wid w) = M (v.wid w)) (hp : ∀ p, p < 40 → T.there p = true → M' (v.pid p) = M (v.pid p)) (hf : ∀ k, n' ≤ k → M' k = none) (hn : 114 ≤ n') (hm : ∀ k, k < 3 ∨ (82 < k ∧ k < 114) → M' k = M k) : DY M0 v g T M' n' := by
  refine ⟨fun j hj => ?_, h.capP, h.capL, h.capW, h.ainj, fun i x hx => (h.postE i x hx).keep hK, fun o i x ho hx => (h.lineE o i x ho hx).keep hK, fun o i x ho hx => (h.wtE o i x ho hx).keep hK, fun w h0 h1 => ?_, fun p hp1 ht => (hp p hp1 ht).trans (h.pobj p hp1 ht), h.pgt, h.pinj, hf, hn, fun k hk => (hm k hk).trans (h.frame k hk), h.emp⟩
  · rw [ha j hj]
    exact h.la j hj
  · obtain ⟨a1, a2, f, a3, a4⟩ := h.ver w h0 h1
    exact ⟨hK _ 5 _ (Or.inr (Or.inr rfl)) a1, a2, f, (hw w h0 h1).trans a3, a4⟩
theorem DY.aid_n {M0 : gzM} {v : gV} {g : gG} {T : CT} {M : gzM} {n : Nat} (h : DY M0 v g T M n) {j : Nat} (hj : j < 25) : g.aid j = 1 ∨ 113 < g.aid j := by
  obtain ⟨-, a1, a2⟩ := h.la j hj
  by_cases e : g.cap j = 0
  · exact Or.inl (a1 e)
  · exact Or.inr (a2 e)
/-- a store at a fixed cell -/
theorem DY.fix {M0 : gzM} {v : gV} {g : gG} {T : CT} {M M' : gzM} {n k : Nat} (h : DY M0 v g T M n) (hF : FX v g T M) (h3 : 3 ≤ k) (h83 : k < 83) (hM : ∀ j, j ≠ k → M' j = M j) : DY M0 v g T M' n ∧ Keep M M' := by
  have hc := hF.cls h3 h83
  have hK : Keep M M' := by
    intro j ci fs hci hj
    rw [hM j (fun e => ?_)]
    · exact hj
    · subst e
      have := hc ci fs hj
      omega
  refine ⟨h.up hK (fun j hj => hM _ ?_) (fun w h0 h1 => hM _ ?_) (fun p hp ht => hM _ (fun e => ?_)) (fun j hj => ?_) h.n114 (fun j hj => hM _ (by omega)), hK⟩
  · have := h.aid_n hj
    omega
  · have := (h.ver w h0 h1).2.1
    omega
  · have h1 := h.pobj p hp ht
    rw [e] at h1
    have := hc 4 _ h1
    omega
  · have := h.n114
    rw [hM j (by omega)]
    exact h.fresh j hj
/-- a new cell -/
theorem RC.alloc {M0 : gzM} {b : Nat} {v : gV} {g : gG} {T : CT} {M M' : gzM} {n nc ns sz : Nat} (h : RC M0 b v g T M n nc ns) (hM : ∀ j, j ≠ n → M' j = M j) (hs : sz ≤ 7) : RC M0 (b + 1) v g T M' (n + 1) (nc + 1) (ns + sz) ∧ Keep M M' := by
  obtain ⟨hF, hD, hE⟩ := h
  have hn := hD.n114
  have hfr := hD.fresh
  have ne : ∀ {k e}, M k = some e → k ≠ n := by
    intro k e hk z
    rw [z, hfr n (Nat.le_refl _)] at hk
    cases hk
  have hK : Keep M M' := fun j ci fs _ hj => by rw [hM j (ne hj)]; exact hj
  refine ⟨⟨hF.keep (fun k _ _ => hM k (by omega)), hD.up hK (fun j hj => hM _ (ne (hD.la j hj).1)) (fun w h0 h1 => ?_) (fun p hp ht => hM _ (ne (hD.pobj p hp ht))) (fun k hk => ?_) (by omega) (fun k hk => hM k (by omega)), ?_⟩, hK⟩
  · obtain ⟨_, _, f, a3, _⟩ := hD.ver w h0 h1
    exact hM _ (ne a3)
  · rw [hM k (by omega)]
    exact hfr k (by omega)
  · exact ⟨by have := hE.c; omega, by have := hE.s; omega⟩

theorem RC.s_hg {M0 : gzM} {b : Nat} {v : gV} {g : gG} {T : CT} {M : gzM} {n nc ns : Nat} (h : RC M0 b v g T M n nc ns) {x : Nat} : RC M0 b v g (T.w_hg x) (gz_up M 3 (.inr (0, [.ref 4, .ref 5, .ref 6, .ref 7, .ref 8, .ref 9, .ref 10, .int (nI T.vs), .int (nI x), .int (nI T.fl)]))) n nc ns := by
  obtain ⟨hF, hD, hE⟩ := h
  have hM : ∀ j, j ≠ 3 → gz_up M 3 (.inr (0, [.ref 4, .ref 5, .ref 6, .ref 7, .ref 8, .ref 9, .ref 10, .int (nI T.vs), .int (nI x), .int (nI T.fl)])) j = M j := fun j hj => gz_up_n hj
  have hX : gz_up M 3 (.inr (0, [.ref 4, .ref 5, .ref 6, .ref 7, .ref 8, .ref 9, .ref 10, .int (nI T.vs), .int (nI x), .int (nI T.fl)])) 3 = some (.inr (0, [.ref 4, .ref 5, .ref 6, .ref 7, .ref 8, .ref 9, .ref 10, .int (nI T.vs), .int (nI x), .int (nI T.fl)])) := gz_up_s
  have hD1 := (hD.fix hF (k := 3) (by omega) (by omega) hM).1
  generalize gz_up M 3 (.inr (0, [.ref 4, .ref 5, .ref 6, .ref 7, .ref 8, .ref 9, .ref 10, .int (nI T.vs), .int (nI x), .int (nI T.fl)])) = M1 at hM hX hD1 ⊢
  refine ⟨⟨?_, ?_, ?_, ?_, ?_, ?_, ?_, ?_, ?_, ?_, ?_, ?_, ?_, ?_⟩, hD1.ofT rfl rfl rfl rfl rfl rfl rfl rfl rfl rfl rfl, hE.ofT rfl rfl⟩
  · exact hX
  · rw [hM _ (by omega)]
    exact hF.precs
  · rw [hM _ (by omega)]
    exact hF.offs
  · rw [hM _ (by omega)]
    exact hF.draft
  · rw [hM _ (by omega)]
    exact hF.sm
  · rw [hM _ (by omega)]
    exact hF.rs
  · rw [hM _ (by omega)]
    exact hF.st
  · intro o2 ho2
    rw [hM _ (by omega)]
    exact hF.off o2 ho2
  · intro o2 ho2
    rw [hM _ (by omega)]
    exact hF.shown o2 ho2
  · intro o2 ho2
    rw [hM _ (by omega)]
    exact hF.src o2 ho2
  · intro o2 ho2
    rw [hM _ (by omega)]
    exact hF.ow o2 ho2
  · rw [hM _ (by omega)]
    exact hF.loP
  · intro o2 ho2
    rw [hM _ (by omega)]
    exact hF.loL o2 ho2
  · intro o2 ho2
    rw [hM _ (by omega)]
    exact hF.loW o2 ho2

theorem RC.s_fl {M0 : gzM} {b : Nat} {v : gV} {g : gG} {T : CT} {M : gzM} {n nc ns : Nat} (h : RC M0 b v g T M n nc ns) {x : Nat} : RC M0 b v g (T.w_fl x) (gz_up M 3 (.inr (0, [.ref 4, .ref 5, .ref 6, .ref 7, .ref 8, .ref 9, .ref 10, .int (nI T.vs), .int (nI T.hg), .int (nI x)]))) n nc ns := by
  obtain ⟨hF, hD, hE⟩ := h
  have hM : ∀ j, j ≠ 3 → gz_up M 3 (.inr (0, [.ref 4, .ref 5, .ref 6, .ref 7, .ref 8, .ref 9, .ref 10, .int (nI T.vs), .int (nI T.hg), .int (nI x)])) j = M j := fun j hj => gz_up_n hj
  have hX : gz_up M 3 (.inr (0, [.ref 4, .ref 5, .ref 6, .ref 7, .ref 8, .ref 9, .ref 10, .int (nI T.vs), .int (nI T.hg), .int (nI x)])) 3 = some (.inr (0, [.ref 4, .ref 5, .ref 6, .ref 7, .ref 8, .ref 9, .ref 10, .int (nI T.vs), .int (nI T.hg), .int (nI x)])) := gz_up_s
  have hD1 := (hD.fix hF (k := 3) (by omega) (by omega) hM).1
  generalize gz_up M 3 (.inr (0, [.ref 4, .ref 5, .ref 6, .ref 7, .ref 8, .ref 9, .ref 10, .int (nI T.vs), .int (nI T.hg), .int (nI x)])) = M1 at hM hX hD1 ⊢
  refine ⟨⟨?_, ?_, ?_, ?_, ?_, ?_, ?_, ?_, ?_, ?_, ?_, ?_, ?_, ?_⟩, hD1.ofT rfl rfl rfl rfl rfl rfl rfl rfl rfl rfl rfl, hE.ofT rfl rfl⟩
  · exact hX
  · rw [hM _ (by omega)]
    exact hF.precs
  · rw [hM _ (by omega)]
    exact hF.offs
  · rw [hM _ (by omega)]
    exact hF.draft
  · rw [hM _ (by omega)]
    exact hF.sm
  · rw [hM _ (by omega)]
    exact hF.rs
  · rw [hM _ (by omega)]
    exact hF.st
  · intro o2 ho2
    rw [hM _ (by omega)]
    exact hF.off o2 ho2
  · intro o2 ho2
    rw [hM _ (by omega)]
    exact hF.shown o2 ho2
  · intro o2 ho2
    rw [hM _ (by omega)]
    exact hF.src o2 ho2
  · intro o2 ho2
    rw [hM _ (by omega)]
    exact hF.ow o2 ho2
  · rw [hM _ (by omega)]
    exact hF.loP
  · intro o2 ho2
    rw [hM _ (by omega)]
    exact hF.loL o2 ho2
  · intro o2 ho2
    rw [hM _ (by omega)]
    exact hF.loW o2 ho2

theorem RC.s_par {M0 : gzM} {b : Nat} {v : gV} {g : gG} {T : CT} {M : gzM} {n nc ns : Nat} (h : RC M0 b v g T M n nc ns) {o : Nat} (ho : o < 12) {x : Option Nat} : RC M0 b v g (T.p_par o x) (gz_up M (11 + 6 * o) (.inr (3, [.int (nI o), .ref (12 + 6 * o), .ref (13 + 6 * o), .ref (14 + 6 * o), .ref (15 + 6 * o), .ref (16 + 6 * o), .int (oI x), .int (T.ep o), .int (nI (T.tk o)), .int (bI (T.up o))]))) n nc ns := by
  obtain ⟨hF, hD, hE⟩ := h
  have hM : ∀ j, j ≠ (11 + 6 * o) → gz_up M (11 + 6 * o) (.inr (3, [.int (nI o), .ref (12 + 6 * o), .ref (13 + 6 * o), .ref (14 + 6 * o), .ref (15 + 6 * o), .ref (16 + 6 * o), .int (oI x), .int (T.ep o), .int (nI (T.tk o)), .int (bI (T.up o))])) j = M j := fun j hj => gz_up_n hj
  have hX : gz_up M (11 + 6 * o) (.inr (3, [.int (nI o), .ref (12 + 6 * o), .ref (13 + 6 * o), .ref (14 + 6 * o), .ref (15 + 6 * o), .ref (16 + 6 * o), .int (oI x), .int (T.ep o), .int (nI (T.tk o)), .int (bI (T.up o))])) (11 + 6 * o) = some (.inr (3, [.int (nI o), .ref (12 + 6 * o), .ref (13 + 6 * o), .ref (14 + 6 * o), .ref (15 + 6 * o), .ref (16 + 6 * o), .int (oI x), .int (T.ep o), .int (nI (T.tk o)), .int (bI (T.up o))])) := gz_up_s
  have hD1 := (hD.fix hF (k := (11 + 6 * o)) (by omega) (by omega) hM).1
  generalize gz_up M (11 + 6 * o) (.inr (3, [.int (nI o), .ref (12 + 6 * o), .ref (13 + 6 * o), .ref (14 + 6 * o), .ref (15 + 6 * o), .ref (16 + 6 * o), .int (oI x), .int (T.ep o), .int (nI (T.tk o)), .int (bI (T.up o))])) = M1 at hM hX hD1 ⊢
  refine ⟨⟨?_, ?_, ?_, ?_, ?_, ?_, ?_, ?_, ?_, ?_, ?_, ?_, ?_, ?_⟩, hD1.ofT rfl rfl rfl rfl rfl rfl rfl rfl rfl rfl rfl, hE.ofT rfl rfl⟩
  · rw [hM _ (by omega)]
    exact hF.house
  · rw [hM _ (by omega)]
    exact hF.precs
  · rw [hM _ (by omega)]
    exact hF.offs
  · rw [hM _ (by omega)]
    exact hF.draft
  · rw [hM _ (by omega)]
    exact hF.sm
  · rw [hM _ (by omega)]
    exact hF.rs
  · rw [hM _ (by omega)]
    exact hF.st
  · intro o2 ho2
    by_cases e : o2 = o
    · subst e
      rw [hX]
      simp [ct1, CT.p_par, CT.w_par, CT.par, CT.ep, CT.tk, CT.up]
    · rw [hM _ (by omega)]
      show M (11 + 6 * o2) = _
      rw [hF.off o2 ho2]
      simp [ct1, e, CT.p_par, CT.w_par, CT.par, CT.ep, CT.tk, CT.up]
  · intro o2 ho2
    rw [hM _ (by omega)]
    exact hF.shown o2 ho2
  · intro o2 ho2
    rw [hM _ (by omega)]
    exact hF.src o2 ho2
  · intro o2 ho2
    rw [hM _ (by omega)]
    exact hF.ow o2 ho2
  · rw [hM _ (by omega)]
    exact hF.loP
  · intro o2 ho2
    rw [hM _ (by omega)]
    exact hF.loL o2 ho2
  · intro o2 ho2
    rw [hM _ (by omega)]
    exact hF.loW o2 ho2

theorem RC.s_ep {M0 : gzM} {b : Nat} {v : gV} {g : gG} {T : CT} {M : gzM} {n nc ns : Nat} (h : RC M0 b v g T M n nc ns) {o : Nat} (ho : o < 12) {x : Int32} : RC M0 b v g (T.p_ep o x) (gz_up M (11 + 6 * o) (.inr (3, [.int (nI o), .ref (12 + 6 * o), .ref (13 + 6 * o), .ref (14 + 6 * o), .ref (15 + 6 * o), .ref (16 + 6 * o), .int (oI (T.par o)), .int x, .int (nI (T.tk o)), .int (bI (T.up o))]))) n nc ns := by
  obtain ⟨hF, hD, hE⟩ := h
  have hM : ∀ j, j ≠ (11 + 6 * o) → gz_up M (11 + 6 * o) (.inr (3, [.int (nI o), .ref (12 + 6 * o), .ref (13 + 6 * o), .ref (14 + 6 * o), .ref (15 + 6 * o), .ref (16 + 6 * o), .int (oI (T.par o)), .int x, .int (nI (T.tk o)), .int (bI (T.up o))])) j = M j := fun j hj => gz_up_n hj
  have hX : gz_up M (11 + 6 * o) (.inr (3, [.int (nI o), .ref (12 + 6 * o), .ref (13 + 6 * o), .ref (14 + 6 * o), .ref (15 + 6 * o), .ref (16 + 6 * o), .int (oI (T.par o)), .int x, .int (nI (T.tk o)), .int (bI (T.up o))])) (11 + 6 * o) = some (.inr (3, [.int (nI o), .ref (12 + 6 * o), .ref (13 + 6 * o), .ref (14 + 6 * o), .ref (15 + 6 * o), .ref (16 + 6 * o), .int (oI (T.par o)), .int x, .int (nI (T.tk o)), .int (bI (T.up o))])) := gz_up_s
  have hD1 := (hD.fix hF (k := (11 + 6 * o)) (by omega) (by omega) hM).1
  generalize gz_up M (11 + 6 * o) (.inr (3, [.int (nI o), .ref (12 + 6 * o), .ref (13 + 6 * o), .ref (14 + 6 * o), .ref (15 + 6 * o), .ref (16 + 6 * o), .int (oI (T.par o)), .int x, .int (nI (T.tk o)), .int (bI (T.up o))])) = M1 at hM hX hD1 ⊢
  refine ⟨⟨?_, ?_, ?_, ?_, ?_, ?_, ?_, ?_, ?_, ?_, ?_, ?_, ?_, ?_⟩, hD1.ofT rfl rfl rfl rfl rfl rfl rfl rfl rfl rfl rfl, hE.ofT rfl rfl⟩
  · rw [hM _ (by omega)]
    exact hF.house
  · rw [hM _ (by omega)]
    exact hF.precs
  · rw [hM _ (by omega)]
    exact hF.offs
  · rw [hM _ (by omega)]
    exact hF.draft
  · rw [hM _ (by omega)]
    exact hF.sm
  · rw [hM _ (by omega)]
    exact hF.rs
  · rw [hM _ (by omega)]
    exact hF.st
  · intro o2 ho2
    by_cases e : o2 = o
    · subst e
      rw [hX]
      simp [ct1, CT.p_ep, CT.w_ep, CT.par, CT.ep, CT.tk, CT.up]
    · rw [hM _ (by omega)]
      show M (11 + 6 * o2) = _
      rw [hF.off o2 ho2]
      simp [ct1, e, CT.p_ep, CT.w_ep, CT.par, CT.ep, CT.tk, CT.up]
  · intro o2 ho2
    rw [hM _ (by omega)]
    exact hF.shown o2 ho2
  · intro o2 ho2
    rw [hM _ (by omega)]
    exact hF.src o2 ho2
  · intro o2 ho2
    rw [hM _ (by omega)]
    exact hF.ow o2 ho2
  · rw [hM _ (by omega)]
    exact hF.loP
  · intro o2 ho2
    rw [hM _ (by omega)]
    exact hF.loL o2 ho2
  · intro o2 ho2
    rw [hM _ (by omega)]
    exact hF.loW o2 ho2

theorem RC.s_tk {M0 : gzM} {b : Nat} {v : gV} {g : gG} {T : CT} {M : gzM} {n nc ns : Nat} (h : RC M0 b v g T M n nc ns) {o : Nat} (ho : o < 12) {x : Nat} : RC M0 b v g (T.p_tk o x) (gz_up M (11 + 6 * o) (.inr (3, [.int (nI o), .ref (12 + 6 * o), .ref (13 + 6 * o), .ref (14 + 6 * o), .ref (15 + 6 * o), .ref (16 + 6 * o), .int (oI (T.par o)), .int (T.ep o), .int (nI x), .int (bI (T.up o))]))) n nc ns := by
  obtain ⟨hF, hD, hE⟩ := h
  have hM : ∀ j, j ≠ (11 + 6 * o) → gz_up M (11 + 6 * o) (.inr (3, [.int (nI o), .ref (12 + 6 * o), .ref (13 + 6 * o), .ref (14 + 6 * o), .ref (15 + 6 * o), .ref (16 + 6 * o), .int (oI (T.par o)), .int (T.ep o), .int (nI x), .int (bI (T.up o))])) j = M j := fun j hj => gz_up_n hj
  have hX : gz_up M (11 + 6 * o) (.inr (3, [.int (nI o), .ref (12 + 6 * o), .ref (13 + 6 * o), .ref (14 + 6 * o), .ref (15 + 6 * o), .ref (16 + 6 * o), .int (oI (T.par o)), .int (T.ep o), .int (nI x), .int (bI (T.up o))])) (11 + 6 * o) = some (.inr (3, [.int (nI o), .ref (12 + 6 * o), .ref (13 + 6 * o), .ref (14 + 6 * o), .ref (15 + 6 * o), .ref (16 + 6 * o), .int (oI (T.par o)), .int (T.ep o), .int (nI x), .int (bI (T.up o))])) := gz_up_s
  have hD1 := (hD.fix hF (k := (11 + 6 * o)) (by omega) (by omega) hM).1
  generalize gz_up M (11 + 6 * o) (.inr (3, [.int (nI o), .ref (12 + 6 * o), .ref (13 + 6 * o), .ref (14 + 6 * o), .ref (15 + 6 * o), .ref (16 + 6 * o), .int (oI (T.par o)), .int (T.ep o), .int (nI x), .int (bI (T.up o))])) = M1 at hM hX hD1 ⊢
  refine ⟨⟨?_, ?_, ?_, ?_, ?_, ?_, ?_, ?_, ?_, ?_, ?_, ?_, ?_, ?_⟩, hD1.ofT rfl rfl rfl rfl rfl rfl rfl rfl rfl rfl rfl, hE.ofT rfl rfl⟩
  · rw [hM _ (by omega)]
    exact hF.house
  · rw [hM _ (by omega)]
    exact hF.precs
  · rw [hM _ (by omega)]
    exact hF.offs
  · rw [hM _ (by omega)]
    exact hF.draft
  · rw [hM _ (by omega)]
    exact hF.sm
  · rw [hM _ (by omega)]
    exact hF.rs
  · rw [hM _ (by omega)]
    exact hF.st
  · intro o2 ho2
    by_cases e : o2 = o
    · subst e
      rw [hX]
      simp [ct1, CT.p_tk, CT.w_tk, CT.par, CT.ep, CT.tk, CT.up]
    · rw [hM _ (by omega)]
      show M (11 + 6 * o2) = _
      rw [hF.off o2 ho2]
      simp [ct1, e, CT.p_tk, CT.w_tk, CT.par, CT.ep, CT.tk, CT.up]
  · intro o2 ho2
    rw [hM _ (by omega)]
    exact hF.shown o2 ho2
  · intro o2 ho2
    rw [hM _ (by omega)]
    exact hF.src o2 ho2
  · intro o2 ho2
    rw [hM _ (by omega)]
    exact hF.ow o2 ho2
  · rw [hM _ (by omega)]
    exact hF.loP
  · intro o2 ho2
    rw [hM _ (by omega)]
    exact hF.loL o2 ho2
  · intro o2 ho2
    rw [hM _ (by omega)]
    exact hF.loW o2 ho2

theorem RC.s_up {M0 : gzM} {b : Nat} {v : gV} {g : gG} {T : CT} {M : gzM} {n nc ns : Nat} (h : RC M0 b v g T M n nc ns) {o : Nat} (ho : o < 12) {x : Bool} : RC M0 b v g (T.p_up o x) (gz_up M (11 + 6 * o) (.inr (3, [.int (nI o), .ref (12 + 6 * o), .ref (13 + 6 * o), .ref (14 + 6 * o), .ref (15 + 6 * o), .ref (16 + 6 * o), .int (oI (T.par o)), .int (T.ep o), .int (nI (T.tk o)), .int (bI x)]))) n nc ns := by
  obtain ⟨hF, hD, hE⟩ := h
  have hM : ∀ j, j ≠ (11 + 6 * o) → gz_up M (11 + 6 * o) (.inr (3, [.int (nI o), .ref (12 + 6 * o), .ref (13 + 6 * o), .ref (14 + 6 * o), .ref (15 + 6 * o), .ref (16 + 6 * o), .int (oI (T.par o)), .int (T.ep o), .int (nI (T.tk o)), .int (bI x)])) j = M j := fun j hj => gz_up_n hj
  have hX : gz_up M (11 + 6 * o) (.inr (3, [.int (nI o), .ref (12 + 6 * o), .ref (13 + 6 * o), .ref (14 + 6 * o), .ref (15 + 6 * o), .ref (16 + 6 * o), .int (oI (T.par o)), .int (T.ep o), .int (nI (T.tk o)), .int (bI x)])) (11 + 6 * o) = some (.inr (3, [.int (nI o), .ref (12 + 6 * o), .ref (13 + 6 * o), .ref (14 + 6 * o), .ref (15 + 6 * o), .ref (16 + 6 * o), .int (oI (T.par o)), .int (T.ep o), .int (nI (T.tk o)), .int (bI x)])) := gz_up_s
  have hD1 := (hD.fix hF (k := (11 + 6 * o)) (by omega) (by omega) hM).1
  generalize gz_up M (11 + 6 * o) (.inr (3, [.int (nI o), .ref (12 + 6 * o), .ref (13 + 6 * o), .ref (14 + 6 * o), .ref (15 + 6 * o), .ref (16 + 6 * o), .int (oI (T.par o)), .int (T.ep o), .int (nI (T.tk o)), .int (bI x)])) = M1 at hM hX hD1 ⊢
  refine ⟨⟨?_, ?_, ?_, ?_, ?_, ?_, ?_, ?_, ?_, ?_, ?_, ?_, ?_, ?_⟩, hD1.ofT rfl rfl rfl rfl rfl rfl rfl rfl rfl rfl rfl, hE.ofT rfl rfl⟩
  · rw [hM _ (by omega)]
    exact hF.house
  · rw [hM _ (by omega)]
    exact hF.precs
  · rw [hM _ (by omega)]
    exact hF.offs
  · rw [hM _ (by omega)]
    exact hF.draft
  · rw [hM _ (by omega)]
    exact hF.sm
  · rw [hM _ (by omega)]
    exact hF.rs
  · rw [hM _ (by omega)]
    exact hF.st
  · intro o2 ho2
    by_cases e : o2 = o
    · subst e
      rw [hX]
      simp [ct1, CT.p_up, CT.w_up, CT.par, CT.ep, CT.tk, CT.up]
    · rw [hM _ (by omega)]
      show M (11 + 6 * o2) = _
      rw [hF.off o2 ho2]
      simp [ct1, e, CT.p_up, CT.w_up, CT.par, CT.ep, CT.tk, CT.up]
  · intro o2 ho2
    rw [hM _ (by omega)]
    exact hF.shown o2 ho2
  · intro o2 ho2
    rw [hM _ (by omega)]
    exact hF.src o2 ho2
  · intro o2 ho2
    rw [hM _ (by omega)]
    exact hF.ow o2 ho2
  · rw [hM _ (by omega)]
    exact hF.loP
  · intro o2 ho2
    rw [hM _ (by omega)]
    exact hF.loL o2 ho2
  · intro o2 ho2
    rw [hM _ (by omega)]
    exact hF.loW o2 ho2

theorem RC.s_shown {M0 : gzM} {b : Nat} {v : gV} {g : gG} {T : CT} {M : gzM} {n nc ns : Nat} (h : RC M0 b v g T M n nc ns) {o p : Nat} (ho : o < 12) {x : Nat} {f : Nat → Value} (hf : ∀ q, q < 40 → f q = vref v (T.shown o q)) : RC M0 b v g (T.p_shown o p x) (gz_up M (12 + 6 * o) (.inl (4, 40, updV f p (vref v x)))) n nc ns := by
  obtain ⟨hF, hD, hE⟩ := h
  have hM : ∀ j, j ≠ (12 + 6 * o) → gz_up M (12 + 6 * o) (.inl (4, 40, updV f p (vref v x))) j = M j := fun j hj => gz_up_n hj
  have hX : gz_up M (12 + 6 * o) (.inl (4, 40, updV f p (vref v x))) (12 + 6 * o) = some (.inl (4, 40, updV f p (vref v x))) := gz_up_s
  have hD1 := (hD.fix hF (k := (12 + 6 * o)) (by omega) (by omega) hM).1
  generalize gz_up M (12 + 6 * o) (.inl (4, 40, updV f p (vref v x))) = M1 at hM hX hD1 ⊢
  refine ⟨⟨?_, ?_, ?_, ?_, ?_, ?_, ?_, ?_, ?_, ?_, ?_, ?_, ?_, ?_⟩, hD1.ofT rfl rfl rfl rfl rfl rfl rfl rfl rfl rfl rfl, hE.ofT rfl rfl⟩
  · rw [hM _ (by omega)]
    exact hF.house
  · rw [hM _ (by omega)]
    exact hF.precs
  · rw [hM _ (by omega)]
    exact hF.offs
  · rw [hM _ (by omega)]
    exact hF.draft
  · rw [hM _ (by omega)]
    exact hF.sm
  · rw [hM _ (by omega)]
    exact hF.rs
  · rw [hM _ (by omega)]
    exact hF.st
  · intro o2 ho2
    rw [hM _ (by omega)]
    exact hF.off o2 ho2
  · intro o2 ho2
    by_cases e : o2 = o
    · subst e
      refine ⟨_, hX, fun q hq => ?_⟩
      show _ = vref v (ct2 T.shown o2 p x o2 q)
      by_cases e2 : q = p
      · subst e2
        rw [show ct2 T.shown o2 q x o2 q = x from if_pos ⟨rfl, rfl⟩]
        simp [updV]
      · rw [show ct2 T.shown o2 p x o2 q = T.shown o2 q from if_neg (fun y => e2 y.2)]
        simp only [updV, if_neg e2]
        exact hf q hq
    · rw [hM _ (by omega)]
      obtain ⟨f2, a1, a2⟩ := hF.shown o2 ho2
      exact ⟨f2, a1, fun q hq => (a2 q hq).trans (by show vref v (T.shown o2 q) = vref v (ct2 T.shown o p x o2 q); rw [show ct2 T.shown o p x o2 q = T.shown o2 q from if_neg (fun y => e y.1)])⟩
  · intro o2 ho2
    rw [hM _ (by omega)]
    exact hF.src o2 ho2
  · intro o2 ho2
    rw [hM _ (by omega)]
    exact hF.ow o2 ho2
  · rw [hM _ (by omega)]
    exact hF.loP
  · intro o2 ho2
    rw [hM _ (by omega)]
    exact hF.loL o2 ho2
  · intro o2 ho2
    rw [hM _ (by omega)]
    exact hF.loW o2 ho2

theorem RC.s_src {M0 : gzM} {b : Nat} {v : gV} {g : gG} {T : CT} {M : gzM} {n nc ns : Nat} (h : RC M0 b v g T M n nc ns) {o p : Nat} (ho : o < 12) {x : Option Nat} {f : Nat → Value} (hf : ∀ q, q < 40 → f q = Value.int (oI (T.src o q))) : RC M0 b v g (T.p_src o p x) (gz_up M (13 + 6 * o) (.inl (1, 40, updV f p (Value.int (oI x))))) n nc ns := by
  obtain ⟨hF, hD, hE⟩ := h
  have hM : ∀ j, j ≠ (13 + 6 * o) → gz_up M (13 + 6 * o) (.inl (1, 40, updV f p (Value.int (oI x)))) j = M j := fun j hj => gz_up_n hj
  have hX : gz_up M (13 + 6 * o) (.inl (1, 40, updV f p (Value.int (oI x)))) (13 + 6 * o) = some (.inl (1, 40, updV f p (Value.int (oI x)))) := gz_up_s
  have hD1 := (hD.fix hF (k := (13 + 6 * o)) (by omega) (by omega) hM).1
  generalize gz_up M (13 + 6 * o) (.inl (1, 40, updV f p (Value.int (oI x)))) = M1 at hM hX hD1 ⊢
  refine ⟨⟨?_, ?_, ?_, ?_, ?_, ?_, ?_, ?_, ?_, ?_, ?_, ?_, ?_, ?_⟩, hD1.ofT rfl rfl rfl rfl rfl rfl rfl rfl rfl rfl rfl, hE.ofT rfl rfl⟩
  · rw [hM _ (by omega)]
    exact hF.house
  · rw [hM _ (by omega)]
    exact hF.precs
  · rw [hM _ (by omega)]
    exact hF.offs
  · rw [hM _ (by omega)]
    exact hF.draft
  · rw [hM _ (by omega)]
    exact hF.sm
  · rw [hM _ (by omega)]
    exact hF.rs
  · rw [hM _ (by omega)]
    exact hF.st
  · intro o2 ho2
    rw [hM _ (by omega)]
    exact hF.off o2 ho2
  · intro o2 ho2
    rw [hM _ (by omega)]
    exact hF.shown o2 ho2
  · intro o2 ho2
    by_cases e : o2 = o
    · subst e
      refine ⟨_, hX, fun q hq => ?_⟩
      show _ = Value.int (oI (ct2 T.src o2 p x o2 q))
      by_cases e2 : q = p
      · subst e2
        rw [show ct2 T.src o2 q x o2 q = x from if_pos ⟨rfl, rfl⟩]
        simp [updV]
      · rw [show ct2 T.src o2 p x o2 q = T.src o2 q from if_neg (fun y => e2 y.2)]
        simp only [updV, if_neg e2]
        exact hf q hq
    · rw [hM _ (by omega)]
      obtain ⟨f2, a1, a2⟩ := hF.src o2 ho2
      exact ⟨f2, a1, fun q hq => (a2 q hq).trans (by show Value.int (oI (T.src o2 q)) = Value.int (oI (ct2 T.src o p x o2 q)); rw [show ct2 T.src o p x o2 q = T.src o2 q from if_neg (fun y => e y.1)])⟩
  · intro o2 ho2
    rw [hM _ (by omega)]
    exact hF.ow o2 ho2
  · rw [hM _ (by omega)]
    exact hF.loP
  · intro o2 ho2
    rw [hM _ (by omega)]
    exact hF.loL o2 ho2
  · intro o2 ho2
    rw [hM _ (by omega)]
    exact hF.loW o2 ho2

theorem RC.s_ow1 {M0 : gzM} {b : Nat} {v : gV} {g : gG} {T : CT} {M : gzM} {n nc ns : Nat} (h : RC M0 b v g T M n nc ns) {o p : Nat} (ho : o < 12) {x : Bool} {f : Nat → Value} (hf : ∀ q, q < 40 → f q = Value.int (bI (T.ow o q))) (hp : p < 40) : RC M0 (b + 2) v g (T.p_ow o p x) (gz_up M (14 + 6 * o) (.inl (3, 40, updV f p (Value.int (bI x))))) n nc ns := by
  obtain ⟨hF, hD, hE⟩ := h
  have hM : ∀ j, j ≠ (14 + 6 * o) → gz_up M (14 + 6 * o) (.inl (3, 40, updV f p (Value.int (bI x)))) j = M j := fun j hj => gz_up_n hj
  have hX : gz_up M (14 + 6 * o) (.inl (3, 40, updV f p (Value.int (bI x)))) (14 + 6 * o) = some (.inl (3, 40, updV f p (Value.int (bI x)))) := gz_up_s
  have hD1 := (hD.fix hF (k := (14 + 6 * o)) (by omega) (by omega) hM).1
  generalize gz_up M (14 + 6 * o) (.inl (3, 40, updV f p (Value.int (bI x)))) = M1 at hM hX hD1 ⊢
  refine ⟨⟨?_, ?_, ?_, ?_, ?_, ?_, ?_, ?_, ?_, ?_, ?_, ?_, ?_, ?_⟩, hD1.ofT rfl rfl rfl rfl rfl rfl rfl rfl rfl rfl rfl, ⟨by have h1 : potO (T.p_ow o p x) + bN (T.ow o p) = potO T + bN x := potO_u ho hp; have h2 := hE.c; have h3 : potW (T.p_ow o p x) = potW T := rfl; rw [h3]; have h4 : bN x ≤ 1 := (by cases x <;> decide); omega, by have h1 : potO (T.p_ow o p x) + bN (T.ow o p) = potO T + bN x := potO_u ho hp; have h2 := hE.s; have h3 : potW (T.p_ow o p x) = potW T := rfl; rw [h3]; have h4 : bN x ≤ 1 := (by cases x <;> decide); omega⟩⟩
  · rw [hM _ (by omega)]
    exact hF.house
  · rw [hM _ (by omega)]
    exact hF.precs
  · rw [hM _ (by omega)]
    exact hF.offs
  · rw [hM _ (by omega)]
    exact hF.draft
  · rw [hM _ (by omega)]
    exact hF.sm
  · rw [hM _ (by omega)]
    exact hF.rs
  · rw [hM _ (by omega)]
    exact hF.st
  · intro o2 ho2
    rw [hM _ (by omega)]
    exact hF.off o2 ho2
  · intro o2 ho2
    rw [hM _ (by omega)]
    exact hF.shown o2 ho2
  · intro o2 ho2
    rw [hM _ (by omega)]
    exact hF.src o2 ho2
  · intro o2 ho2
    by_cases e : o2 = o
    · subst e
      refine ⟨_, hX, fun q hq => ?_⟩
      show _ = Value.int (bI (ct2 T.ow o2 p x o2 q))
      by_cases e2 : q = p
      · subst e2
        rw [show ct2 T.ow o2 q x o2 q = x from if_pos ⟨rfl, rfl⟩]
        simp [updV]
      · rw [show ct2 T.ow o2 p x o2 q = T.ow o2 q from if_neg (fun y => e2 y.2)]
        simp only [updV, if_neg e2]
        exact hf q hq
    · rw [hM _ (by omega)]
      obtain ⟨f2, a1, a2⟩ := hF.ow o2 ho2
      exact ⟨f2, a1, fun q hq => (a2 q hq).trans (by show Value.int (bI (T.ow o2 q)) = Value.int (bI (ct2 T.ow o p x o2 q)); rw [show ct2 T.ow o p x o2 q = T.ow o2 q from if_neg (fun y => e y.1)])⟩
  · rw [hM _ (by omega)]
    exact hF.loP
  · intro o2 ho2
    rw [hM _ (by omega)]
    exact hF.loL o2 ho2
  · intro o2 ho2
    rw [hM _ (by omega)]
    exact hF.loW o2 ho2

theorem RC.s_ow0 {M0 : gzM} {b : Nat} {v : gV} {g : gG} {T : CT} {M : gzM} {n nc ns : Nat} (h : RC M0 b v g T M n nc ns) {o p : Nat} (ho : o < 12) {x : Bool} {f : Nat → Value} (hf : ∀ q, q < 40 → f q = Value.int (bI (T.ow o q))) (hp : p < 40) (hx : x = false) : RC M0 b v g (T.p_ow o p x) (gz_up M (14 + 6 * o) (.inl (3, 40, updV f p (Value.int (bI x))))) n nc ns := by
  obtain ⟨hF, hD, hE⟩ := h
  have hM : ∀ j, j ≠ (14 + 6 * o) → gz_up M (14 + 6 * o) (.inl (3, 40, updV f p (Value.int (bI x)))) j = M j := fun j hj => gz_up_n hj
  have hX : gz_up M (14 + 6 * o) (.inl (3, 40, updV f p (Value.int (bI x)))) (14 + 6 * o) = some (.inl (3, 40, updV f p (Value.int (bI x)))) := gz_up_s
  have hD1 := (hD.fix hF (k := (14 + 6 * o)) (by omega) (by omega) hM).1
  generalize gz_up M (14 + 6 * o) (.inl (3, 40, updV f p (Value.int (bI x)))) = M1 at hM hX hD1 ⊢
  refine ⟨⟨?_, ?_, ?_, ?_, ?_, ?_, ?_, ?_, ?_, ?_, ?_, ?_, ?_, ?_⟩, hD1.ofT rfl rfl rfl rfl rfl rfl rfl rfl rfl rfl rfl, ⟨by have h1 : potO (T.p_ow o p x) + bN (T.ow o p) = potO T + bN x := potO_u ho hp; have h2 := hE.c; have h3 : potW (T.p_ow o p x) = potW T := rfl; rw [h3]; have h4 : bN x = 0 := (by rw [hx]; rfl); omega, by have h1 : potO (T.p_ow o p x) + bN (T.ow o p) = potO T + bN x := potO_u ho hp; have h2 := hE.s; have h3 : potW (T.p_ow o p x) = potW T := rfl; rw [h3]; have h4 : bN x = 0 := (by rw [hx]; rfl); omega⟩⟩
  · rw [hM _ (by omega)]
    exact hF.house
  · rw [hM _ (by omega)]
    exact hF.precs
  · rw [hM _ (by omega)]
    exact hF.offs
  · rw [hM _ (by omega)]
    exact hF.draft
  · rw [hM _ (by omega)]
    exact hF.sm
  · rw [hM _ (by omega)]
    exact hF.rs
  · rw [hM _ (by omega)]
    exact hF.st
  · intro o2 ho2
    rw [hM _ (by omega)]
    exact hF.off o2 ho2
  · intro o2 ho2
    rw [hM _ (by omega)]
    exact hF.shown o2 ho2
  · intro o2 ho2
    rw [hM _ (by omega)]
    exact hF.src o2 ho2
  · intro o2 ho2
    by_cases e : o2 = o
    · subst e
      refine ⟨_, hX, fun q hq => ?_⟩
      show _ = Value.int (bI (ct2 T.ow o2 p x o2 q))
      by_cases e2 : q = p
      · subst e2
        rw [show ct2 T.ow o2 q x o2 q = x from if_pos ⟨rfl, rfl⟩]
        simp [updV]
      · rw [show ct2 T.ow o2 p x o2 q = T.ow o2 q from if_neg (fun y => e2 y.2)]
        simp only [updV, if_neg e2]
        exact hf q hq
    · rw [hM _ (by omega)]
      obtain ⟨f2, a1, a2⟩ := hF.ow o2 ho2
      exact ⟨f2, a1, fun q hq => (a2 q hq).trans (by show Value.int (bI (T.ow o2 q)) = Value.int (bI (ct2 T.ow o p x o2 q)); rw [show ct2 T.ow o p x o2 q = T.ow o2 q from if_neg (fun y => e y.1)])⟩
  · rw [hM _ (by omega)]
    exact hF.loP
  · intro o2 ho2
    rw [hM _ (by omega)]
    exact hF.loL o2 ho2
  · intro o2 ho2
    rw [hM _ (by omega)]
    exact hF.loW o2 ho2

theorem RC.s_owF {M0 : gzM} {b : Nat} {v : gV} {g : gG} {T : CT} {M : gzM} {n nc ns : Nat} (h : RC M0 (b + 2) v g T M n nc ns) {o p : Nat} (ho : o < 12) {x : Bool} {f : Nat → Value} (hf : ∀ q, q < 40 → f q = Value.int (bI (T.ow o q))) (hp : p < 40) (hx : x = false) (hw : T.ow o p = true) : RC M0 b v g (T.p_ow o p x) (gz_up M (14 + 6 * o) (.inl (3, 40, updV f p (Value.int (bI x))))) n nc ns := by
  obtain ⟨hF, hD, hE⟩ := h
  have hM : ∀ j, j ≠ (14 + 6 * o) → gz_up M (14 + 6 * o) (.inl (3, 40, updV f p (Value.int (bI x)))) j = M j := fun j hj => gz_up_n hj
  have hX : gz_up M (14 + 6 * o) (.inl (3, 40, updV f p (Value.int (bI x)))) (14 + 6 * o) = some (.inl (3, 40, updV f p (Value.int (bI x)))) := gz_up_s
  have hD1 := (hD.fix hF (k := (14 + 6 * o)) (by omega) (by omega) hM).1
  generalize gz_up M (14 + 6 * o) (.inl (3, 40, updV f p (Value.int (bI x)))) = M1 at hM hX hD1 ⊢
  refine ⟨⟨?_, ?_, ?_, ?_, ?_, ?_, ?_, ?_, ?_, ?_, ?_, ?_, ?_, ?_⟩, hD1.ofT rfl rfl rfl rfl rfl rfl rfl rfl rfl rfl rfl, ⟨by have h1 : potO (T.p_ow o p x) + bN (T.ow o p) = potO T + bN x := potO_u ho hp; have h2 := hE.c; have h3 : potW (T.p_ow o p x) = potW T := rfl; rw [h3]; have h4 : bN x = 0 := (by rw [hx]; rfl); have h5 : bN (T.ow o p) = 1 := (by rw [hw]; rfl); omega, by have h1 : potO (T.p_ow o p x) + bN (T.ow o p) = potO T + bN x := potO_u ho hp; have h2 := hE.s; have h3 : potW (T.p_ow o p x) = potW T := rfl; rw [h3]; have h4 : bN x = 0 := (by rw [hx]; rfl); have h5 : bN (T.ow o p) = 1 := (by rw [hw]; rfl); omega⟩⟩
  · rw [hM _ (by omega)]
    exact hF.house
  · rw [hM _ (by omega)]
    exact hF.precs
  · rw [hM _ (by omega)]
    exact hF.offs
  · rw [hM _ (by omega)]
    exact hF.draft
  · rw [hM _ (by omega)]
    exact hF.sm
  · rw [hM _ (by omega)]
    exact hF.rs
  · rw [hM _ (by omega)]
    exact hF.st
  · intro o2 ho2
    rw [hM _ (by omega)]
    exact hF.off o2 ho2
  · intro o2 ho2
    rw [hM _ (by omega)]
    exact hF.shown o2 ho2
  · intro o2 ho2
    rw [hM _ (by omega)]
    exact hF.src o2 ho2
  · intro o2 ho2
    by_cases e : o2 = o
    · subst e
      refine ⟨_, hX, fun q hq => ?_⟩
      show _ = Value.int (bI (ct2 T.ow o2 p x o2 q))
      by_cases e2 : q = p
      · subst e2
        rw [show ct2 T.ow o2 q x o2 q = x from if_pos ⟨rfl, rfl⟩]
        simp [updV]
      · rw [show ct2 T.ow o2 p x o2 q = T.ow o2 q from if_neg (fun y => e2 y.2)]
        simp only [updV, if_neg e2]
        exact hf q hq
    · rw [hM _ (by omega)]
      obtain ⟨f2, a1, a2⟩ := hF.ow o2 ho2
      exact ⟨f2, a1, fun q hq => (a2 q hq).trans (by show Value.int (bI (T.ow o2 q)) = Value.int (bI (ct2 T.ow o p x o2 q)); rw [show ct2 T.ow o p x o2 q = T.ow o2 q from if_neg (fun y => e y.1)])⟩
  · rw [hM _ (by omega)]
    exact hF.loP
  · intro o2 ho2
    rw [hM _ (by omega)]
    exact hF.loL o2 ho2
  · intro o2 ho2
    rw [hM _ (by omega)]
    exact hF.loW o2 ho2

theorem RC.s_draft {M0 : gzM} {b : Nat} {v : gV} {g : gG} {T : CT} {M : gzM} {n nc ns : Nat} (h : RC M0 b v g T M n nc ns) {i : Nat} {x : Int32} {f : Nat → Value} (hf : ∀ q, q < 6 → f q = Value.int (T.draft q)) : RC M0 b v g (T.p_draft i x) (gz_up M 7 (.inl (1, 6, updV f i (Value.int x)))) n nc ns := by
  obtain ⟨hF, hD, hE⟩ := h
  have hM : ∀ j, j ≠ 7 → gz_up M 7 (.inl (1, 6, updV f i (Value.int x))) j = M j := fun j hj => gz_up_n hj
  have hX : gz_up M 7 (.inl (1, 6, updV f i (Value.int x))) 7 = some (.inl (1, 6, updV f i (Value.int x))) := gz_up_s
  have hD1 := (hD.fix hF (k := 7) (by omega) (by omega) hM).1
  generalize gz_up M 7 (.inl (1, 6, updV f i (Value.int x))) = M1 at hM hX hD1 ⊢
  refine ⟨⟨?_, ?_, ?_, ?_, ?_, ?_, ?_, ?_, ?_, ?_, ?_, ?_, ?_, ?_⟩, hD1.ofT rfl rfl rfl rfl rfl rfl rfl rfl rfl rfl rfl, hE.ofT rfl rfl⟩
  · rw [hM _ (by omega)]
    exact hF.house
  · rw [hM _ (by omega)]
    exact hF.precs
  · rw [hM _ (by omega)]
    exact hF.offs
  · refine ⟨_, hX, fun q hq => ?_⟩
    show _ = Value.int (ct1 T.draft i x q)
    by_cases e2 : q = i
    · subst e2
      rw [show ct1 T.draft q x q = x from if_pos rfl]
      simp [updV]
    · rw [show ct1 T.draft i x q = T.draft q from if_neg e2]
      simp only [updV, if_neg e2]
      exact hf q hq
  · rw [hM _ (by omega)]
    exact hF.sm
  · rw [hM _ (by omega)]
    exact hF.rs
  · rw [hM _ (by omega)]
    exact hF.st
  · intro o2 ho2
    rw [hM _ (by omega)]
    exact hF.off o2 ho2
  · intro o2 ho2
    rw [hM _ (by omega)]
    exact hF.shown o2 ho2
  · intro o2 ho2
    rw [hM _ (by omega)]
    exact hF.src o2 ho2
  · intro o2 ho2
    rw [hM _ (by omega)]
    exact hF.ow o2 ho2
  · rw [hM _ (by omega)]
    exact hF.loP
  · intro o2 ho2
    rw [hM _ (by omega)]
    exact hF.loL o2 ho2
  · intro o2 ho2
    rw [hM _ (by omega)]
    exact hF.loW o2 ho2

theorem RC.s_sm {M0 : gzM} {b : Nat} {v : gV} {g : gG} {T : CT} {M : gzM} {n nc ns : Nat} (h : RC M0 b v g T M n nc ns) {i : Nat} {x : Int64} {f : Nat → Value} (hf : ∀ q, q < 6 → f q = Value.long (g.sm q)) : RC M0 b v (g.w_sm (ct1 g.sm i x)) (T) (gz_up M 8 (.inl (2, 6, updV f i (Value.long x)))) n nc ns := by
  obtain ⟨hF, hD, hE⟩ := h
  have hM : ∀ j, j ≠ 8 → gz_up M 8 (.inl (2, 6, updV f i (Value.long x))) j = M j := fun j hj => gz_up_n hj
  have hX : gz_up M 8 (.inl (2, 6, updV f i (Value.long x))) 8 = some (.inl (2, 6, updV f i (Value.long x))) := gz_up_s
  have hD1 := (hD.fix hF (k := 8) (by omega) (by omega) hM).1
  generalize gz_up M 8 (.inl (2, 6, updV f i (Value.long x))) = M1 at hM hX hD1 ⊢
  refine ⟨⟨?_, ?_, ?_, ?_, ?_, ?_, ?_, ?_, ?_, ?_, ?_, ?_, ?_, ?_⟩, hD1.ofT rfl rfl rfl rfl rfl rfl rfl rfl rfl rfl rfl, hE.ofT rfl rfl⟩
  · rw [hM _ (by omega)]
    exact hF.house
  · rw [hM _ (by omega)]
    exact hF.precs
  · rw [hM _ (by omega)]
    exact hF.offs
  · rw [hM _ (by omega)]
    exact hF.draft
  · refine ⟨_, hX, fun q hq => ?_⟩
    show _ = Value.long (ct1 g.sm i x q)
    by_cases e2 : q = i
    · subst e2
      rw [show ct1 g.sm q x q = x from if_pos rfl]
      simp [updV]
    · rw [show ct1 g.sm i x q = g.sm q from if_neg e2]
      simp only [updV, if_neg e2]
      exact hf q hq
  · rw [hM _ (by omega)]
    exact hF.rs
  · rw [hM _ (by omega)]
    exact hF.st
  · intro o2 ho2
    rw [hM _ (by omega)]
    exact hF.off o2 ho2
  · intro o2 ho2
    rw [hM _ (by omega)]
    exact hF.shown o2 ho2
  · intro o2 ho2
    rw [hM _ (by omega)]
    exact hF.src o2 ho2
  · intro o2 ho2
    rw [hM _ (by omega)]
    exact hF.ow o2 ho2
  · rw [hM _ (by omega)]
    exact hF.loP
  · intro o2 ho2
    rw [hM _ (by omega)]
    exact hF.loL o2 ho2
  · intro o2 ho2
    rw [hM _ (by omega)]
    exact hF.loW o2 ho2

theorem RC.s_rs {M0 : gzM} {b : Nat} {v : gV} {g : gG} {T : CT} {M : gzM} {n nc ns : Nat} (h : RC M0 b v g T M n nc ns) {i : Nat} {x : Int64} {f : Nat → Value} (hf : ∀ q, q < 6 → f q = Value.long (g.rs q)) : RC M0 b v (g.w_rs (ct1 g.rs i x)) (T) (gz_up M 9 (.inl (2, 6, updV f i (Value.long x)))) n nc ns := by
  obtain ⟨hF, hD, hE⟩ := h
  have hM : ∀ j, j ≠ 9 → gz_up M 9 (.inl (2, 6, updV f i (Value.long x))) j = M j := fun j hj => gz_up_n hj
  have hX : gz_up M 9 (.inl (2, 6, updV f i (Value.long x))) 9 = some (.inl (2, 6, updV f i (Value.long x))) := gz_up_s
  have hD1 := (hD.fix hF (k := 9) (by omega) (by omega) hM).1
  generalize gz_up M 9 (.inl (2, 6, updV f i (Value.long x))) = M1 at hM hX hD1 ⊢
  refine ⟨⟨?_, ?_, ?_, ?_, ?_, ?_, ?_, ?_, ?_, ?_, ?_, ?_, ?_, ?_⟩, hD1.ofT rfl rfl rfl rfl rfl rfl rfl rfl rfl rfl rfl, hE.ofT rfl rfl⟩
  · rw [hM _ (by omega)]
    exact hF.house
  · rw [hM _ (by omega)]
    exact hF.precs
  · rw [hM _ (by omega)]
    exact hF.offs
  · rw [hM _ (by omega)]
    exact hF.draft
  · rw [hM _ (by omega)]
    exact hF.sm
  · refine ⟨_, hX, fun q hq => ?_⟩
    show _ = Value.long (ct1 g.rs i x q)
    by_cases e2 : q = i
    · subst e2
      rw [show ct1 g.rs q x q = x from if_pos rfl]
      simp [updV]
    · rw [show ct1 g.rs i x q = g.rs q from if_neg e2]
      simp only [updV, if_neg e2]
      exact hf q hq
  · rw [hM _ (by omega)]
    exact hF.st
  · intro o2 ho2
    rw [hM _ (by omega)]
    exact hF.off o2 ho2
  · intro o2 ho2
    rw [hM _ (by omega)]
    exact hF.shown o2 ho2
  · intro o2 ho2
    rw [hM _ (by omega)]
    exact hF.src o2 ho2
  · intro o2 ho2
    rw [hM _ (by omega)]
    exact hF.ow o2 ho2
  · rw [hM _ (by omega)]
    exact hF.loP
  · intro o2 ho2
    rw [hM _ (by omega)]
    exact hF.loL o2 ho2
  · intro o2 ho2
    rw [hM _ (by omega)]
    exact hF.loW o2 ho2

theorem RC.s_st {M0 : gzM} {b : Nat} {v : gV} {g : gG} {T : CT} {M : gzM} {n nc ns : Nat} (h : RC M0 b v g T M n nc ns) {i : Nat} {x : Int32} {f : Nat → Value} (hf : ∀ q, q < 6 → f q = Value.int (g.st q)) : RC M0 b v (g.w_st (ct1 g.st i x)) (T) (gz_up M 10 (.inl (1, 6, updV f i (Value.int x)))) n nc ns := by
  obtain ⟨hF, hD, hE⟩ := h
  have hM : ∀ j, j ≠ 10 → gz_up M 10 (.inl (1, 6, updV f i (Value.int x))) j = M j := fun j hj => gz_up_n hj
  have hX : gz_up M 10 (.inl (1, 6, updV f i (Value.int x))) 10 = some (.inl (1, 6, updV f i (Value.int x))) := gz_up_s
  have hD1 := (hD.fix hF (k := 10) (by omega) (by omega) hM).1
  generalize gz_up M 10 (.inl (1, 6, updV f i (Value.int x))) = M1 at hM hX hD1 ⊢
  refine ⟨⟨?_, ?_, ?_, ?_, ?_, ?_, ?_, ?_, ?_, ?_, ?_, ?_, ?_, ?_⟩, hD1.ofT rfl rfl rfl rfl rfl rfl rfl rfl rfl rfl rfl, hE.ofT rfl rfl⟩
  · rw [hM _ (by omega)]
    exact hF.house
  · rw [hM _ (by omega)]
    exact hF.precs
  · rw [hM _ (by omega)]
    exact hF.offs
  · rw [hM _ (by omega)]
    exact hF.draft
  · rw [hM _ (by omega)]
    exact hF.sm
  · rw [hM _ (by omega)]
    exact hF.rs
  · refine ⟨_, hX, fun q hq => ?_⟩
    show _ = Value.int (ct1 g.st i x q)
    by_cases e2 : q = i
    · subst e2
      rw [show ct1 g.st q x q = x from if_pos rfl]
      simp [updV]
    · rw [show ct1 g.st i x q = g.st q from if_neg e2]
      simp only [updV, if_neg e2]
      exact hf q hq
  · intro o2 ho2
    rw [hM _ (by omega)]
    exact hF.off o2 ho2
  · intro o2 ho2
    rw [hM _ (by omega)]
    exact hF.shown o2 ho2
  · intro o2 ho2
    rw [hM _ (by omega)]
    exact hF.src o2 ho2
  · intro o2 ho2
    rw [hM _ (by omega)]
    exact hF.ow o2 ho2
  · rw [hM _ (by omega)]
    exact hF.loP
  · intro o2 ho2
    rw [hM _ (by omega)]
    exact hF.loL o2 ho2
  · intro o2 ho2
    rw [hM _ (by omega)]
    exact hF.loW o2 ho2

theorem RC.s_home {M0 : gzM} {b : Nat} {v : gV} {g : gG} {T : CT} {M : gzM} {n nc ns : Nat} (h : RC M0 b v g T M n nc ns) {p : Nat} (hp : p < 40) (ht : T.there p = true) {x : Nat} : RC M0 b v g (T.p_home p x) (gz_up M (v.pid p) (.inr (4, [.int (T.reg p), .int (nI x), vref v (T.last p)]))) n nc ns := by
  obtain ⟨hF, hD, hE⟩ := h
  have hg := hD.pgt p hp ht
  have ho := hD.pobj p hp ht
  have hM : ∀ j, j ≠ v.pid p → gz_up M (v.pid p) (.inr (4, [.int (T.reg p), .int (nI x), vref v (T.last p)])) j = M j := fun j hj => gz_up_n hj
  have hX : gz_up M (v.pid p) (.inr (4, [.int (T.reg p), .int (nI x), vref v (T.last p)])) (v.pid p) = some (.inr (4, [.int (T.reg p), .int (nI x), vref v (T.last p)])) := gz_up_s
  generalize gz_up M (v.pid p) (.inr (4, [.int (T.reg p), .int (nI x), vref v (T.last p)])) = M1 at hM hX ⊢
  have hK : Keep M M1 := by
    intro j ci fs hci hj
    rw [hM j (fun e => ?_)]
    · exact hj
    · rw [e, ho] at hj
      cases hj
      omega
  refine ⟨(hF.keep (fun k h3 h83 => hM k (by omega))).ofT rfl rfl rfl rfl rfl rfl rfl rfl rfl rfl rfl rfl rfl rfl rfl, ?_, hE.ofT rfl rfl⟩
  refine ⟨fun j hj => ?_, hD.capP, hD.capL, hD.capW, hD.ainj, fun i x hx => (hD.postE i x hx).keep hK, fun o i x ho hx => (hD.lineE o i x ho hx).keep hK, fun o i x ho hx => (hD.wtE o i x ho hx).keep hK, fun w h0 h1 => ?_, fun q hq hqt => ?_, hD.pgt, hD.pinj, fun k hk => ?_, hD.n114, fun k hk => (hM k (by omega)).trans (hD.frame k hk), hD.emp⟩
  · have h1 := (hD.la j hj).1
    rw [hM _ (fun e => by rw [e, ho] at h1; cases h1)]
    exact hD.la j hj
  · obtain ⟨a1, a2, f, a3, a4⟩ := hD.ver w h0 h1
    exact ⟨hK _ 5 _ (Or.inr (Or.inr rfl)) a1, a2, f, (hM _ (fun e => by rw [e, ho] at a3; cases a3)).trans a3, a4⟩
  · by_cases e : q = p
    · subst e
      rw [hX]
      simp [ct1, CT.p_home, CT.w_home, CT.reg, CT.home, CT.last]
    · rw [hM _ (fun z => e (hD.pinj q p hq hp hqt ht z))]
      refine (hD.pobj q hq hqt).trans ?_
      simp [ct1, CT.p_home, CT.w_home, CT.reg, CT.home, CT.last, e]
  · rw [hM k (fun e => by rw [← e, hD.fresh k hk] at ho; cases ho)]
    exact hD.fresh k hk

theorem RC.s_last {M0 : gzM} {b : Nat} {v : gV} {g : gG} {T : CT} {M : gzM} {n nc ns : Nat} (h : RC M0 b v g T M n nc ns) {p : Nat} (hp : p < 40) (ht : T.there p = true) {x : Nat} : RC M0 b v g (T.p_last p x) (gz_up M (v.pid p) (.inr (4, [.int (T.reg p), .int (nI (T.home p)), vref v x]))) n nc ns := by
  obtain ⟨hF, hD, hE⟩ := h
  have hg := hD.pgt p hp ht
  have ho := hD.pobj p hp ht
  have hM : ∀ j, j ≠ v.pid p → gz_up M (v.pid p) (.inr (4, [.int (T.reg p), .int (nI (T.home p)), vref v x])) j = M j := fun j hj => gz_up_n hj
  have hX : gz_up M (v.pid p) (.inr (4, [.int (T.reg p), .int (nI (T.home p)), vref v x])) (v.pid p) = some (.inr (4, [.int (T.reg p), .int (nI (T.home p)), vref v x])) := gz_up_s
  generalize gz_up M (v.pid p) (.inr (4, [.int (T.reg p), .int (nI (T.home p)), vref v x])) = M1 at hM hX ⊢
  have hK : Keep M M1 := by
    intro j ci fs hci hj
    rw [hM j (fun e => ?_)]
    · exact hj
    · rw [e, ho] at hj
      cases hj
      omega
  refine ⟨(hF.keep (fun k h3 h83 => hM k (by omega))).ofT rfl rfl rfl rfl rfl rfl rfl rfl rfl rfl rfl rfl rfl rfl rfl, ?_, hE.ofT rfl rfl⟩
  refine ⟨fun j hj => ?_, hD.capP, hD.capL, hD.capW, hD.ainj, fun i x hx => (hD.postE i x hx).keep hK, fun o i x ho hx => (hD.lineE o i x ho hx).keep hK, fun o i x ho hx => (hD.wtE o i x ho hx).keep hK, fun w h0 h1 => ?_, fun q hq hqt => ?_, hD.pgt, hD.pinj, fun k hk => ?_, hD.n114, fun k hk => (hM k (by omega)).trans (hD.frame k hk), hD.emp⟩
  · have h1 := (hD.la j hj).1
    rw [hM _ (fun e => by rw [e, ho] at h1; cases h1)]
    exact hD.la j hj
  · obtain ⟨a1, a2, f, a3, a4⟩ := hD.ver w h0 h1
    exact ⟨hK _ 5 _ (Or.inr (Or.inr rfl)) a1, a2, f, (hM _ (fun e => by rw [e, ho] at a3; cases a3)).trans a3, a4⟩
  · by_cases e : q = p
    · subst e
      rw [hX]
      simp [ct1, CT.p_last, CT.w_last, CT.reg, CT.home, CT.last]
    · rw [hM _ (fun z => e (hD.pinj q p hq hp hqt ht z))]
      refine (hD.pobj q hq hqt).trans ?_
      simp [ct1, CT.p_last, CT.w_last, CT.reg, CT.home, CT.last, e]
  · rw [hM k (fun e => by rw [← e, hD.fresh k hk] at ho; cases ho)]
    exact hD.fresh k hk

theorem RC.listP {M0 : gzM} {b : Nat} {v : gV} {g : gG} {T : CT} {M : gzM} {n nc ns : Nat} (h : RC M0 b v g T M n nc ns) {xs : List (Nat × Int32 × Nat × Nat × Nat)} {M' : gzM} {n' nc' ns' b' a c : Nat} {e : Nat → Value} (hM : ∀ k, k ≠ 6 → k ≠ a → M' k = M k) (hA : a = g.aid (0) ∨ (a = n ∧ c ≠ 0)) (h1 : a = 1 → M' 1 = M 1) (hc : a = g.aid (0) → c = g.cap (0)) (hO : ∃ mc, M' (6) = some (.inr (7, [.ref a, .int (nI xs.length), .int mc]))) (hX : M' a = some (.inl (7, c, e))) (hl : xs.length ≤ c ∧ c ≤ 760) (hE : ∀ (i : Nat) x, xs[i]? = some x → IsL v M (e i) x) (hf : ∀ k, n' ≤ k → M' k = none) (hn : n ≤ n') (hme : ME b' (g.w_l (0) a c e) (T.w_post xs) nc' ns') : RC M0 b' v (g.w_l (0) a c e) (T.w_post xs) M' n' nc' ns' ∧ Keep M M' := by
  obtain ⟨hF, hD, -⟩ := h
  have hn1 := hD.n114
  have hj : 0 < 25 := by omega
  obtain ⟨mc0, hO0⟩ := hF.loP
  have hA0 := (hD.la (0) hj).1
  have hAn := hD.aid_n hj
  have ha3 : a = 1 ∨ 113 < a := by
    rcases hA with z | z
    · rw [z]; exact hAn
    · omega
  have hal : 6 ≠ a := by omega
  have hna : ∀ ci fs, ¬ M a = some (.inr (ci, fs)) := by
    intro ci fs z
    rcases hA with y | y
    · rw [y, hA0] at z; cases z
    · rw [y.1, hD.fresh n (Nat.le_refl _)] at z; cases z
  have hK : Keep M M' := by
    intro k ci fs hci hk
    rw [hM k (fun z => ?_) (fun z => ?_)]
    · exact hk
    · rw [z, hO0] at hk
      cases hk
      omega
    · rw [z] at hk
      exact hna _ _ hk
  have hoth : ∀ i, i < 25 → i ≠ 0 → M' (g.aid i) = M (g.aid i) ∧ (g.cap i ≠ 0 ∨ c ≠ 0 → g.aid i ≠ a) := by
    intro i hi hne
    have h2 := hD.aid_n hi
    have hAi := (hD.la i hi).1
    have key : g.aid i = a → a = 1 ∧ g.cap i = 0 ∧ c = 0 := by
      intro z
      rcases hA with y | y
      · have hz : g.cap (0) = 0 := Classical.byContradiction fun w => hne (hD.ainj _ _ hj hi w (by rw [z, y])).symm
        have hz2 : g.cap i = 0 := Classical.byContradiction fun w => hne (hD.ainj _ _ hi hj w (by rw [z, y]))
        exact ⟨y.trans ((hD.la _ hj).2.1 hz), hz2, (hc y).trans hz⟩
      · rw [z, y.1, hD.fresh n (Nat.le_refl _)] at hAi
        cases hAi
    refine ⟨?_, fun z w => by have := key w; omega⟩
    by_cases z : g.aid i = a
    · have := (key z).1
      rw [z, this]
      exact h1 this
    · exact hM _ (by omega) z
  refine ⟨⟨?_, ?_, hme⟩, hK⟩
  · refine ⟨?_, ?_, ?_, ?_, ?_, ?_, ?_, ?_, ?_, ?_, ?_, ?_, ?_, ?_⟩
    · rw [hM _ (by omega) (by omega)]
      exact hF.house
    · rw [hM _ (by omega) (by omega)]
      exact hF.precs
    · rw [hM _ (by omega) (by omega)]
      exact hF.offs
    · rw [hM _ (by omega) (by omega)]
      exact hF.draft
    · rw [hM _ (by omega) (by omega)]
      exact hF.sm
    · rw [hM _ (by omega) (by omega)]
      exact hF.rs
    · rw [hM _ (by omega) (by omega)]
      exact hF.st
    · intro o2 ho2
      rw [hM _ (by omega) (by omega)]
      exact hF.off o2 ho2
    · intro o2 ho2
      rw [hM _ (by omega) (by omega)]
      exact hF.shown o2 ho2
    · intro o2 ho2
      rw [hM _ (by omega) (by omega)]
      exact hF.src o2 ho2
    · intro o2 ho2
      rw [hM _ (by omega) (by omega)]
      exact hF.ow o2 ho2
    · obtain ⟨mc, hO⟩ := hO
      refine ⟨mc, hO.trans ?_⟩
      show _ = (some (Sum.inr (7, [.ref (ct1 g.aid 0 a 0), .int (nI xs.length), .int mc])) : Option gzE)
      rw [show ct1 g.aid 0 a 0 = a from if_pos rfl]
    · intro o2 ho2
      obtain ⟨mc, hz⟩ := hF.loL o2 ho2
      refine ⟨mc, (hM _ (by omega) (by omega)).trans (hz.trans ?_)⟩
      show _ = (some (Sum.inr (7, [.ref (ct1 g.aid (0) a (1 + o2)), .int (nI (T.line o2).length), .int mc])) : Option gzE)
      rw [show ct1 g.aid (0) a (1 + o2) = g.aid (1 + o2) from if_neg (by omega)]
    · intro o2 ho2
      obtain ⟨mc, hz⟩ := hF.loW o2 ho2
      refine ⟨mc, (hM _ (by omega) (by omega)).trans (hz.trans ?_)⟩
      show _ = (some (Sum.inr (7, [.ref (ct1 g.aid (0) a (13 + o2)), .int (nI (T.wt o2).length), .int mc])) : Option gzE)
      rw [show ct1 g.aid (0) a (13 + o2) = g.aid (13 + o2) from if_neg (by omega)]
  · refine ⟨fun i hi => ?_, ?_, ?_, ?_, fun i i2 hi hi2 => ?_, ?_, ?_, ?_, fun w h0 h2 => ?_, fun q hq hqt => ?_, hD.pgt, hD.pinj, hf, by omega, fun k hk => ?_, hD.emp⟩
    · show M' (ct1 g.aid (0) a i) = some (.inl (7, ct1 g.cap (0) c i, ct1 g.el (0) e i)) ∧ (ct1 g.cap (0) c i = 0 → ct1 g.aid (0) a i = 1) ∧ (ct1 g.cap (0) c i ≠ 0 → 113 < ct1 g.aid (0) a i)
      by_cases z : i = 0
      · rw [show ct1 g.aid (0) a i = a from if_pos z, show ct1 g.cap (0) c i = c from if_pos z, show ct1 g.el (0) e i = e from if_pos z]
        refine ⟨hX, fun w => ?_, fun w => ?_⟩
        · rcases hA with y | y
          · rw [y]
            exact (hD.la _ hj).2.1 ((hc y).symm.trans w)
          · exact absurd w y.2
        · rcases hA with y | y
          · rw [y]
            exact (hD.la _ hj).2.2 (fun t => w ((hc y).trans t))
          · omega
      · rw [show ct1 g.aid (0) a i = g.aid i from if_neg z, show ct1 g.cap (0) c i = g.cap i from if_neg z, show ct1 g.el (0) e i = g.el i from if_neg z, (hoth i hi z).1]
        exact hD.la i hi
    · show xs.length ≤ ct1 g.cap 0 c 0 ∧ ct1 g.cap 0 c 0 ≤ 760
      rw [show ct1 g.cap 0 c 0 = c from if_pos rfl]
      exact hl
    · intro o2 ho2
      show (T.line o2).length ≤ ct1 g.cap (0) c (1 + o2) ∧ ct1 g.cap (0) c (1 + o2) ≤ 13510
      rw [show ct1 g.cap (0) c (1 + o2) = g.cap (1 + o2) from if_neg (by omega)]
      exact hD.capL o2 ho2
    · intro o2 ho2
      show (T.wt o2).length ≤ ct1 g.cap (0) c (13 + o2) ∧ ct1 g.cap (0) c (13 + o2) ≤ 3010
      rw [show ct1 g.cap (0) c (13 + o2) = g.cap (13 + o2) from if_neg (by omega)]
      exact hD.capW o2 ho2
    · show ct1 g.cap (0) c i ≠ 0 → ct1 g.aid (0) a i = ct1 g.aid (0) a i2 → i = i2
      intro y1 y2
      by_cases z : i = 0
      · by_cases z2 : i2 = 0
        · rw [z, z2]
        · rw [show ct1 g.cap (0) c i = c from if_pos z] at y1
          rw [show ct1 g.aid (0) a i = a from if_pos z, show ct1 g.aid (0) a i2 = g.aid i2 from if_neg z2] at y2
          exact absurd y2.symm ((hoth i2 hi2 z2).2 (Or.inr y1))
      · rw [show ct1 g.cap (0) c i = g.cap i from if_neg z] at y1
        rw [show ct1 g.aid (0) a i = g.aid i from if_neg z] at y2
        by_cases z2 : i2 = 0
        · rw [show ct1 g.aid (0) a i2 = a from if_pos z2] at y2
          exact absurd y2 ((hoth i hi z).2 (Or.inl y1))
        · rw [show ct1 g.aid (0) a i2 = g.aid i2 from if_neg z2] at y2
          exact hD.ainj i i2 hi hi2 y1 y2
    · intro i x hx
      show IsL v M' (ct1 g.el 0 e 0 i) x
      rw [show ct1 g.el 0 e 0 = e from if_pos rfl]
      exact (hE i x hx).keep hK
    · intro o2 i x ho2 hx
      show IsC v M' (ct1 g.el (0) e (1 + o2) i) x
      rw [show ct1 g.el (0) e (1 + o2) = g.el (1 + o2) from if_neg (by omega)]
      exact (hD.lineE o2 i x ho2 hx).keep hK
    · intro o2 i x ho2 hx
      show IsC v M' (ct1 g.el (0) e (13 + o2) i) x
      rw [show ct1 g.el (0) e (13 + o2) = g.el (13 + o2) from if_neg (by omega)]
      exact (hD.wtE o2 i x ho2 hx).keep hK
    · obtain ⟨a1, a2, f, a3, a4⟩ := hD.ver w h0 h2
      refine ⟨hK _ 5 _ (Or.inr (Or.inr rfl)) a1, a2, f, (hM _ (by omega) (fun z => ?_)).trans a3, a4⟩
      rw [z] at a3
      rcases hA with y | y
      · rw [y, hA0] at a3; cases a3
      · rw [y.1, hD.fresh n (Nat.le_refl _)] at a3; cases a3
    · have hb := hD.pobj q hq hqt
      have hg := hD.pgt q hq hqt
      exact (hM _ (by omega) (fun z => hna _ _ (by rw [← z]; exact hb))).trans hb
    · by_cases z : k = a
      · have z1 : a = 1 := by omega
        rw [z, z1]
        rw [z, z1] at hk
        exact (h1 z1).trans (hD.frame 1 hk)
      · exact (hM k (by omega) z).trans (hD.frame k hk)

theorem RC.listL {M0 : gzM} {b : Nat} {v : gV} {g : gG} {T : CT} {M : gzM} {n nc ns : Nat} (h : RC M0 b v g T M n nc ns) {o : Nat} (ho : o < 12) {xs : List (Nat × Nat)} {M' : gzM} {n' nc' ns' b' a c : Nat} {e : Nat → Value} (hM : ∀ k, k ≠ 15 + 6 * o → k ≠ a → M' k = M k) (hA : a = g.aid (1 + o) ∨ (a = n ∧ c ≠ 0)) (h1 : a = 1 → M' 1 = M 1) (hc : a = g.aid (1 + o) → c = g.cap (1 + o)) (hO : ∃ mc, M' (15 + 6 * o) = some (.inr (7, [.ref a, .int (nI xs.length), .int mc]))) (hX : M' a = some (.inl (7, c, e))) (hl : xs.length ≤ c ∧ c ≤ 13510) (hE : ∀ (i : Nat) x, xs[i]? = some x → IsC v M (e i) x) (hf : ∀ k, n' ≤ k → M' k = none) (hn : n ≤ n') (hme : ME b' (g.w_l (1 + o) a c e) (T.w_line (ct1 T.line o xs)) nc' ns') : RC M0 b' v (g.w_l (1 + o) a c e) (T.w_line (ct1 T.line o xs)) M' n' nc' ns' ∧ Keep M M' := by
  obtain ⟨hF, hD, -⟩ := h
  have hn1 := hD.n114
  have hj : 1 + o < 25 := by omega
  obtain ⟨mc0, hO0⟩ := hF.loL o ho
  have hA0 := (hD.la (1 + o) hj).1
  have hAn := hD.aid_n hj
  have ha3 : a = 1 ∨ 113 < a := by
    rcases hA with z | z
    · rw [z]; exact hAn
    · omega
  have hal : 15 + 6 * o ≠ a := by omega
  have hna : ∀ ci fs, ¬ M a = some (.inr (ci, fs)) := by
    intro ci fs z
    rcases hA with y | y
    · rw [y, hA0] at z; cases z
    · rw [y.1, hD.fresh n (Nat.le_refl _)] at z; cases z
  have hK : Keep M M' := by
    intro k ci fs hci hk
    rw [hM k (fun z => ?_) (fun z => ?_)]
    · exact hk
    · rw [z, hO0] at hk
      cases hk
      omega
    · rw [z] at hk
      exact hna _ _ hk
  have hoth : ∀ i, i < 25 → i ≠ 1 + o → M' (g.aid i) = M (g.aid i) ∧ (g.cap i ≠ 0 ∨ c ≠ 0 → g.aid i ≠ a) := by
    intro i hi hne
    have h2 := hD.aid_n hi
    have hAi := (hD.la i hi).1
    have key : g.aid i = a → a = 1 ∧ g.cap i = 0 ∧ c = 0 := by
      intro z
      rcases hA with y | y
      · have hz : g.cap (1 + o) = 0 := Classical.byContradiction fun w => hne (hD.ainj _ _ hj hi w (by rw [z, y])).symm
        have hz2 : g.cap i = 0 := Classical.byContradiction fun w => hne (hD.ainj _ _ hi hj w (by rw [z, y]))
        exact ⟨y.trans ((hD.la _ hj).2.1 hz), hz2, (hc y).trans hz⟩
      · rw [z, y.1, hD.fresh n (Nat.le_refl _)] at hAi
        cases hAi
    refine ⟨?_, fun z w => by have := key w; omega⟩
    by_cases z : g.aid i = a
    · have := (key z).1
      rw [z, this]
      exact h1 this
    · exact hM _ (by omega) z
  refine ⟨⟨?_, ?_, hme⟩, hK⟩
  · refine ⟨?_, ?_, ?_, ?_, ?_, ?_, ?_, ?_, ?_, ?_, ?_, ?_, ?_, ?_⟩
    · rw [hM _ (by omega) (by omega)]
      exact hF.house
    · rw [hM _ (by omega) (by omega)]
      exact hF.precs
    · rw [hM _ (by omega) (by omega)]
      exact hF.offs
    · rw [hM _ (by omega) (by omega)]
      exact hF.draft
    · rw [hM _ (by omega) (by omega)]
      exact hF.sm
    · rw [hM _ (by omega) (by omega)]
      exact hF.rs
    · rw [hM _ (by omega) (by omega)]
      exact hF.st
    · intro o2 ho2
      rw [hM _ (by omega) (by omega)]
      exact hF.off o2 ho2
    · intro o2 ho2
      rw [hM _ (by omega) (by omega)]
      exact hF.shown o2 ho2
    · intro o2 ho2
      rw [hM _ (by omega) (by omega)]
      exact hF.src o2 ho2
    · intro o2 ho2
      rw [hM _ (by omega) (by omega)]
      exact hF.ow o2 ho2
    · obtain ⟨mc, hz⟩ := hF.loP
      refine ⟨mc, (hM _ (by omega) (by omega)).trans (hz.trans ?_)⟩
      show _ = (some (Sum.inr (7, [.ref (ct1 g.aid (1 + o) a (0)), .int (nI T.post.length), .int mc])) : Option gzE)
      rw [show ct1 g.aid (1 + o) a (0) = g.aid (0) from if_neg (by omega)]
    · intro o2 ho2
      by_cases z : o2 = o
      · subst z
        obtain ⟨mc, hO⟩ := hO
        refine ⟨mc, hO.trans ?_⟩
        show _ = (some (Sum.inr (7, [.ref (ct1 g.aid (1 + o2) a (1 + o2)), .int (nI (ct1 T.line o2 xs o2).length), .int mc])) : Option gzE)
        rw [show ct1 g.aid (1 + o2) a (1 + o2) = a from if_pos rfl, show ct1 T.line o2 xs o2 = xs from if_pos rfl]
      · obtain ⟨mc, hz⟩ := hF.loL o2 ho2
        refine ⟨mc, (hM _ (by omega) (by omega)).trans (hz.trans ?_)⟩
        show _ = (some (Sum.inr (7, [.ref (ct1 g.aid (1 + o) a (1 + o2)), .int (nI (ct1 T.line o xs o2).length), .int mc])) : Option gzE)
        rw [show ct1 g.aid (1 + o) a (1 + o2) = g.aid (1 + o2) from if_neg (by omega), show ct1 T.line o xs o2 = T.line o2 from if_neg z]
    · intro o2 ho2
      obtain ⟨mc, hz⟩ := hF.loW o2 ho2
      refine ⟨mc, (hM _ (by omega) (by omega)).trans (hz.trans ?_)⟩
      show _ = (some (Sum.inr (7, [.ref (ct1 g.aid (1 + o) a (13 + o2)), .int (nI (T.wt o2).length), .int mc])) : Option gzE)
      rw [show ct1 g.aid (1 + o) a (13 + o2) = g.aid (13 + o2) from if_neg (by omega)]
  · refine ⟨fun i hi => ?_, ?_, ?_, ?_, fun i i2 hi hi2 => ?_, ?_, ?_, ?_, fun w h0 h2 => ?_, fun q hq hqt => ?_, hD.pgt, hD.pinj, hf, by omega, fun k hk => ?_, hD.emp⟩
    · show M' (ct1 g.aid (1 + o) a i) = some (.inl (7, ct1 g.cap (1 + o) c i, ct1 g.el (1 + o) e i)) ∧ (ct1 g.cap (1 + o) c i = 0 → ct1 g.aid (1 + o) a i = 1) ∧ (ct1 g.cap (1 + o) c i ≠ 0 → 113 < ct1 g.aid (1 + o) a i)
      by_cases z : i = 1 + o
      · rw [show ct1 g.aid (1 + o) a i = a from if_pos z, show ct1 g.cap (1 + o) c i = c from if_pos z, show ct1 g.el (1 + o) e i = e from if_pos z]
        refine ⟨hX, fun w => ?_, fun w => ?_⟩
        · rcases hA with y | y
          · rw [y]
            exact (hD.la _ hj).2.1 ((hc y).symm.trans w)
          · exact absurd w y.2
        · rcases hA with y | y
          · rw [y]
            exact (hD.la _ hj).2.2 (fun t => w ((hc y).trans t))
          · omega
      · rw [show ct1 g.aid (1 + o) a i = g.aid i from if_neg z, show ct1 g.cap (1 + o) c i = g.cap i from if_neg z, show ct1 g.el (1 + o) e i = g.el i from if_neg z, (hoth i hi z).1]
        exact hD.la i hi
    · show T.post.length ≤ ct1 g.cap (1 + o) c (0) ∧ ct1 g.cap (1 + o) c (0) ≤ 760
      rw [show ct1 g.cap (1 + o) c (0) = g.cap (0) from if_neg (by omega)]
      exact hD.capP
    · intro o2 ho2
      by_cases z : o2 = o
      · subst z
        show (ct1 T.line o2 xs o2).length ≤ ct1 g.cap (1 + o2) c (1 + o2) ∧ ct1 g.cap (1 + o2) c (1 + o2) ≤ 13510
        rw [show ct1 T.line o2 xs o2 = xs from if_pos rfl, show ct1 g.cap (1 + o2) c (1 + o2) = c from if_pos rfl]
        exact hl
      · show (ct1 T.line o xs o2).length ≤ ct1 g.cap (1 + o) c (1 + o2) ∧ ct1 g.cap (1 + o) c (1 + o2) ≤ 13510
        rw [show ct1 T.line o xs o2 = T.line o2 from if_neg z, show ct1 g.cap (1 + o) c (1 + o2) = g.cap (1 + o2) from if_neg (by omega)]
        exact hD.capL o2 ho2
    · intro o2 ho2
      show (T.wt o2).length ≤ ct1 g.cap (1 + o) c (13 + o2) ∧ ct1 g.cap (1 + o) c (13 + o2) ≤ 3010
      rw [show ct1 g.cap (1 + o) c (13 + o2) = g.cap (13 + o2) from if_neg (by omega)]
      exact hD.capW o2 ho2
    · show ct1 g.cap (1 + o) c i ≠ 0 → ct1 g.aid (1 + o) a i = ct1 g.aid (1 + o) a i2 → i = i2
      intro y1 y2
      by_cases z : i = 1 + o
      · by_cases z2 : i2 = 1 + o
        · rw [z, z2]
        · rw [show ct1 g.cap (1 + o) c i = c from if_pos z] at y1
          rw [show ct1 g.aid (1 + o) a i = a from if_pos z, show ct1 g.aid (1 + o) a i2 = g.aid i2 from if_neg z2] at y2
          exact absurd y2.symm ((hoth i2 hi2 z2).2 (Or.inr y1))
      · rw [show ct1 g.cap (1 + o) c i = g.cap i from if_neg z] at y1
        rw [show ct1 g.aid (1 + o) a i = g.aid i from if_neg z] at y2
        by_cases z2 : i2 = 1 + o
        · rw [show ct1 g.aid (1 + o) a i2 = a from if_pos z2] at y2
          exact absurd y2 ((hoth i hi z).2 (Or.inl y1))
        · rw [show ct1 g.aid (1 + o) a i2 = g.aid i2 from if_neg z2] at y2
          exact hD.ainj i i2 hi hi2 y1 y2
    · intro i x hx
      show IsL v M' (ct1 g.el (1 + o) e (0) i) x
      rw [show ct1 g.el (1 + o) e (0) = g.el (0) from if_neg (by omega)]
      exact (hD.postE i x hx).keep hK
    · intro o2 i x ho2 hx
      by_cases z : o2 = o
      · subst z
        have hx : (ct1 T.line o2 xs o2)[i]? = some x := hx
        rw [show ct1 T.line o2 xs o2 = xs from if_pos rfl] at hx
        show IsC v M' (ct1 g.el (1 + o2) e (1 + o2) i) x
        rw [show ct1 g.el (1 + o2) e (1 + o2) = e from if_pos rfl]
        exact (hE i x hx).keep hK
      · have hx : (ct1 T.line o xs o2)[i]? = some x := hx
        rw [show ct1 T.line o xs o2 = T.line o2 from if_neg z] at hx
        show IsC v M' (ct1 g.el (1 + o) e (1 + o2) i) x
        rw [show ct1 g.el (1 + o) e (1 + o2) = g.el (1 + o2) from if_neg (by omega)]
        exact (hD.lineE o2 i x ho2 hx).keep hK
    · intro o2 i x ho2 hx
      show IsC v M' (ct1 g.el (1 + o) e (13 + o2) i) x
      rw [show ct1 g.el (1 + o) e (13 + o2) = g.el (13 + o2) from if_neg (by omega)]
      exact (hD.wtE o2 i x ho2 hx).keep hK
    · obtain ⟨a1, a2, f, a3, a4⟩ := hD.ver w h0 h2
      refine ⟨hK _ 5 _ (Or.inr (Or.inr rfl)) a1, a2, f, (hM _ (by omega) (fun z => ?_)).trans a3, a4⟩
      rw [z] at a3
      rcases hA with y | y
      · rw [y, hA0] at a3; cases a3
      · rw [y.1, hD.fresh n (Nat.le_refl _)] at a3; cases a3
    · have hb := hD.pobj q hq hqt
      have hg := hD.pgt q hq hqt
      exact (hM _ (by omega) (fun z => hna _ _ (by rw [← z]; exact hb))).trans hb
    · by_cases z : k = a
      · have z1 : a = 1 := by omega
        rw [z, z1]
        rw [z, z1] at hk
        exact (h1 z1).trans (hD.frame 1 hk)
      · exact (hM k (by omega) z).trans (hD.frame k hk)

theorem RC.listW {M0 : gzM} {b : Nat} {v : gV} {g : gG} {T : CT} {M : gzM} {n nc ns : Nat} (h : RC M0 b v g T M n nc ns) {o : Nat} (ho : o < 12) {xs : List (Nat × Nat)} {M' : gzM} {n' nc' ns' b' a c : Nat} {e : Nat → Value} (hM : ∀ k, k ≠ 16 + 6 * o → k ≠ a → M' k = M k) (hA : a = g.aid (13 + o) ∨ (a = n ∧ c ≠ 0)) (h1 : a = 1 → M' 1 = M 1) (hc : a = g.aid (13 + o) → c = g.cap (13 + o)) (hO : ∃ mc, M' (16 + 6 * o) = some (.inr (7, [.ref a, .int (nI xs.length), .int mc]))) (hX : M' a = some (.inl (7, c, e))) (hl : xs.length ≤ c ∧ c ≤ 3010) (hE : ∀ (i : Nat) x, xs[i]? = some x → IsC v M (e i) x) (hf : ∀ k, n' ≤ k → M' k = none) (hn : n ≤ n') (hme : ME b' (g.w_l (13 + o) a c e) (T.w_wt (ct1 T.wt o xs)) nc' ns') : RC M0 b' v (g.w_l (13 + o) a c e) (T.w_wt (ct1 T.wt o xs)) M' n' nc' ns' ∧ Keep M M' := by
  obtain ⟨hF, hD, -⟩ := h
  have hn1 := hD.n114
  have hj : 13 + o < 25 := by omega
  obtain ⟨mc0, hO0⟩ := hF.loW o ho
  have hA0 := (hD.la (13 + o) hj).1
  have hAn := hD.aid_n hj
  have ha3 : a = 1 ∨ 113 < a := by
    rcases hA with z | z
    · rw [z]; exact hAn
    · omega
  have hal : 16 + 6 * o ≠ a := by omega
  have hna : ∀ ci fs, ¬ M a = some (.inr (ci, fs)) := by
    intro ci fs z
    rcases hA with y | y
    · rw [y, hA0] at z; cases z
    · rw [y.1, hD.fresh n (Nat.le_refl _)] at z; cases z
  have hK : Keep M M' := by
    intro k ci fs hci hk
    rw [hM k (fun z => ?_) (fun z => ?_)]
    · exact hk
    · rw [z, hO0] at hk
      cases hk
      omega
    · rw [z] at hk
      exact hna _ _ hk
  have hoth : ∀ i, i < 25 → i ≠ 13 + o → M' (g.aid i) = M (g.aid i) ∧ (g.cap i ≠ 0 ∨ c ≠ 0 → g.aid i ≠ a) := by
    intro i hi hne
    have h2 := hD.aid_n hi
    have hAi := (hD.la i hi).1
    have key : g.aid i = a → a = 1 ∧ g.cap i = 0 ∧ c = 0 := by
      intro z
      rcases hA with y | y
      · have hz : g.cap (13 + o) = 0 := Classical.byContradiction fun w => hne (hD.ainj _ _ hj hi w (by rw [z, y])).symm
        have hz2 : g.cap i = 0 := Classical.byContradiction fun w => hne (hD.ainj _ _ hi hj w (by rw [z, y]))
        exact ⟨y.trans ((hD.la _ hj).2.1 hz), hz2, (hc y).trans hz⟩
      · rw [z, y.1, hD.fresh n (Nat.le_refl _)] at hAi
        cases hAi
    refine ⟨?_, fun z w => by have := key w; omega⟩
    by_cases z : g.aid i = a
    · have := (key z).1
      rw [z, this]
      exact h1 this
    · exact hM _ (by omega) z
  refine ⟨⟨?_, ?_, hme⟩, hK⟩
  · refine ⟨?_, ?_, ?_, ?_, ?_, ?_, ?_, ?_, ?_, ?_, ?_, ?_, ?_, ?_⟩
    · rw [hM _ (by omega) (by omega)]
      exact hF.house
    · rw [hM _ (by omega) (by omega)]
      exact hF.precs
    · rw [hM _ (by omega) (by omega)]
      exact hF.offs
    · rw [hM _ (by omega) (by omega)]
      exact hF.draft
    · rw [hM _ (by omega) (by omega)]
      exact hF.sm
    · rw [hM _ (by omega) (by omega)]
      exact hF.rs
    · rw [hM _ (by omega) (by omega)]
      exact hF.st
    · intro o2 ho2
      rw [hM _ (by omega) (by omega)]
      exact hF.off o2 ho2
    · intro o2 ho2
      rw [hM _ (by omega) (by omega)]
      exact hF.shown o2 ho2
    · intro o2 ho2
      rw [hM _ (by omega) (by omega)]
      exact hF.src o2 ho2
    · intro o2 ho2
      rw [hM _ (by omega) (by omega)]
      exact hF.ow o2 ho2
    · obtain ⟨mc, hz⟩ := hF.loP
      refine ⟨mc, (hM _ (by omega) (by omega)).trans (hz.trans ?_)⟩
      show _ = (some (Sum.inr (7, [.ref (ct1 g.aid (13 + o) a (0)), .int (nI T.post.length), .int mc])) : Option gzE)
      rw [show ct1 g.aid (13 + o) a (0) = g.aid (0) from if_neg (by omega)]
    · intro o2 ho2
      obtain ⟨mc, hz⟩ := hF.loL o2 ho2
      refine ⟨mc, (hM _ (by omega) (by omega)).trans (hz.trans ?_)⟩
      show _ = (some (Sum.inr (7, [.ref (ct1 g.aid (13 + o) a (1 + o2)), .int (nI (T.line o2).length), .int mc])) : Option gzE)
      rw [show ct1 g.aid (13 + o) a (1 + o2) = g.aid (1 + o2) from if_neg (by omega)]
    · intro o2 ho2
      by_cases z : o2 = o
      · subst z
        obtain ⟨mc, hO⟩ := hO
        refine ⟨mc, hO.trans ?_⟩
        show _ = (some (Sum.inr (7, [.ref (ct1 g.aid (13 + o2) a (13 + o2)), .int (nI (ct1 T.wt o2 xs o2).length), .int mc])) : Option gzE)
        rw [show ct1 g.aid (13 + o2) a (13 + o2) = a from if_pos rfl, show ct1 T.wt o2 xs o2 = xs from if_pos rfl]
      · obtain ⟨mc, hz⟩ := hF.loW o2 ho2
        refine ⟨mc, (hM _ (by omega) (by omega)).trans (hz.trans ?_)⟩
        show _ = (some (Sum.inr (7, [.ref (ct1 g.aid (13 + o) a (13 + o2)), .int (nI (ct1 T.wt o xs o2).length), .int mc])) : Option gzE)
        rw [show ct1 g.aid (13 + o) a (13 + o2) = g.aid (13 + o2) from if_neg (by omega), show ct1 T.wt o xs o2 = T.wt o2 from if_neg z]
  · refine ⟨fun i hi => ?_, ?_, ?_, ?_, fun i i2 hi hi2 => ?_, ?_, ?_, ?_, fun w h0 h2 => ?_, fun q hq hqt => ?_, hD.pgt, hD.pinj, hf, by omega, fun k hk => ?_, hD.emp⟩
    · show M' (ct1 g.aid (13 + o) a i) = some (.inl (7, ct1 g.cap (13 + o) c i, ct1 g.el (13 + o) e i)) ∧ (ct1 g.cap (13 + o) c i = 0 → ct1 g.aid (13 + o) a i = 1) ∧ (ct1 g.cap (13 + o) c i ≠ 0 → 113 < ct1 g.aid (13 + o) a i)
      by_cases z : i = 13 + o
      · rw [show ct1 g.aid (13 + o) a i = a from if_pos z, show ct1 g.cap (13 + o) c i = c from if_pos z, show ct1 g.el (13 + o) e i = e from if_pos z]
        refine ⟨hX, fun w => ?_, fun w => ?_⟩
        · rcases hA with y | y
          · rw [y]
            exact (hD.la _ hj).2.1 ((hc y).symm.trans w)
          · exact absurd w y.2
        · rcases hA with y | y
          · rw [y]
            exact (hD.la _ hj).2.2 (fun t => w ((hc y).trans t))
          · omega
      · rw [show ct1 g.aid (13 + o) a i = g.aid i from if_neg z, show ct1 g.cap (13 + o) c i = g.cap i from if_neg z, show ct1 g.el (13 + o) e i = g.el i from if_neg z, (hoth i hi z).1]
        exact hD.la i hi
    · show T.post.length ≤ ct1 g.cap (13 + o) c (0) ∧ ct1 g.cap (13 + o) c (0) ≤ 760
      rw [show ct1 g.cap (13 + o) c (0) = g.cap (0) from if_neg (by omega)]
      exact hD.capP
    · intro o2 ho2
      show (T.line o2).length ≤ ct1 g.cap (13 + o) c (1 + o2) ∧ ct1 g.cap (13 + o) c (1 + o2) ≤ 13510
      rw [show ct1 g.cap (13 + o) c (1 + o2) = g.cap (1 + o2) from if_neg (by omega)]
      exact hD.capL o2 ho2
    · intro o2 ho2
      by_cases z : o2 = o
      · subst z
        show (ct1 T.wt o2 xs o2).length ≤ ct1 g.cap (13 + o2) c (13 + o2) ∧ ct1 g.cap (13 + o2) c (13 + o2) ≤ 3010
        rw [show ct1 T.wt o2 xs o2 = xs from if_pos rfl, show ct1 g.cap (13 + o2) c (13 + o2) = c from if_pos rfl]
        exact hl
      · show (ct1 T.wt o xs o2).length ≤ ct1 g.cap (13 + o) c (13 + o2) ∧ ct1 g.cap (13 + o) c (13 + o2) ≤ 3010
        rw [show ct1 T.wt o xs o2 = T.wt o2 from if_neg z, show ct1 g.cap (13 + o) c (13 + o2) = g.cap (13 + o2) from if_neg (by omega)]
        exact hD.capW o2 ho2
    · show ct1 g.cap (13 + o) c i ≠ 0 → ct1 g.aid (13 + o) a i = ct1 g.aid (13 + o) a i2 → i = i2
      intro y1 y2
      by_cases z : i = 13 + o
      · by_cases z2 : i2 = 13 + o
        · rw [z, z2]
        · rw [show ct1 g.cap (13 + o) c i = c from if_pos z] at y1
          rw [show ct1 g.aid (13 + o) a i = a from if_pos z, show ct1 g.aid (13 + o) a i2 = g.aid i2 from if_neg z2] at y2
          exact absurd y2.symm ((hoth i2 hi2 z2).2 (Or.inr y1))
      · rw [show ct1 g.cap (13 + o) c i = g.cap i from if_neg z] at y1
        rw [show ct1 g.aid (13 + o) a i = g.aid i from if_neg z] at y2
        by_cases z2 : i2 = 13 + o
        · rw [show ct1 g.aid (13 + o) a i2 = a from if_pos z2] at y2
          exact absurd y2 ((hoth i hi z).2 (Or.inl y1))
        · rw [show ct1 g.aid (13 + o) a i2 = g.aid i2 from if_neg z2] at y2
          exact hD.ainj i i2 hi hi2 y1 y2
    · intro i x hx
      show IsL v M' (ct1 g.el (13 + o) e (0) i) x
      rw [show ct1 g.el (13 + o) e (0) = g.el (0) from if_neg (by omega)]
      exact (hD.postE i x hx).keep hK
    · intro o2 i x ho2 hx
      show IsC v M' (ct1 g.el (13 + o) e (1 + o2) i) x
      rw [show ct1 g.el (13 + o) e (1 + o2) = g.el (1 + o2) from if_neg (by omega)]
      exact (hD.lineE o2 i x ho2 hx).keep hK
    · intro o2 i x ho2 hx
      by_cases z : o2 = o
      · subst z
        have hx : (ct1 T.wt o2 xs o2)[i]? = some x := hx
        rw [show ct1 T.wt o2 xs o2 = xs from if_pos rfl] at hx
        show IsC v M' (ct1 g.el (13 + o2) e (13 + o2) i) x
        rw [show ct1 g.el (13 + o2) e (13 + o2) = e from if_pos rfl]
        exact (hE i x hx).keep hK
      · have hx : (ct1 T.wt o xs o2)[i]? = some x := hx
        rw [show ct1 T.wt o xs o2 = T.wt o2 from if_neg z] at hx
        show IsC v M' (ct1 g.el (13 + o) e (13 + o2) i) x
        rw [show ct1 g.el (13 + o) e (13 + o2) = g.el (13 + o2) from if_neg (by omega)]
        exact (hD.wtE o2 i x ho2 hx).keep hK
    · obtain ⟨a1, a2, f, a3, a4⟩ := hD.ver w h0 h2
      refine ⟨hK _ 5 _ (Or.inr (Or.inr rfl)) a1, a2, f, (hM _ (by omega) (fun z => ?_)).trans a3, a4⟩
      rw [z] at a3
      rcases hA with y | y
      · rw [y, hA0] at a3; cases a3
      · rw [y.1, hD.fresh n (Nat.le_refl _)] at a3; cases a3
    · have hb := hD.pobj q hq hqt
      have hg := hD.pgt q hq hqt
      exact (hM _ (by omega) (fun z => hna _ _ (by rw [← z]; exact hb))).trans hb
    · by_cases z : k = a
      · have z1 : a = 1 := by omega
        rw [z, z1]
        rw [z, z1] at hk
        exact (h1 z1).trans (hD.frame 1 hk)
      · exact (hM k (by omega) z).trans (hD.frame k hk)
