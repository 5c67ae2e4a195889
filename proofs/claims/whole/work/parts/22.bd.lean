/-! Bounds and the potential kept. Printed by wip/whole/bd.py -/
theorem Bd.w_post {T : CT} (h : Bd T) {xs : List (Nat × Int32 × Nat × Nat × Nat)} (h1 : xs.length ≤ 500) (h2 : ∀ x, x ∈ xs → x.1 < 12 ∧ 0 < x.2.2.1 ∧ x.2.2.1 ≤ 9000 ∧ x.2.2.2.1 < 40 ∧ x.2.2.2.2 ≤ T.vs) : Bd (T.w_post xs) :=
  ⟨h.home, h.last, h.vs, h.par, h.shown, h.src, h.srcN, h.line, h.lineN, h.tk, h.wt, h.wtN, h1, h2, h.hg, h.fl⟩
theorem Bd.w_line {T : CT} (h : Bd T) {o : Nat} {xs : List (Nat × Nat)} (h1 : xs.length ≤ 9000) (h2 : ∀ x, x ∈ xs → x.1 < 40 ∧ x.2 ≤ T.vs) : Bd (T.w_line (ct1 T.line o xs)) :=
  ⟨h.home, h.last, h.vs, h.par, h.shown, h.src, h.srcN, fun a x ha hx => by
    replace hx : x ∈ ct1 T.line o xs a := hx
    by_cases e : a = o
    · subst e
      rw [ct1_s] at hx
      exact h2 x hx
    · rw [ct1_n e] at hx
      exact h.line a x ha hx, fun a ha => by
    show (ct1 T.line o xs a).length ≤ 9000
    by_cases e : a = o
    · subst e
      rw [ct1_s]
      exact h1
    · rw [ct1_n e]
      exact h.lineN a ha, h.tk, h.wt, h.wtN, h.postN, h.post, h.hg, h.fl⟩
theorem Bd.w_wt {T : CT} (h : Bd T) {o : Nat} {xs : List (Nat × Nat)} (h1 : xs.length ≤ 2000) (h2 : ∀ x, x ∈ xs → x.1 < 40 ∧ 0 < x.2 ∧ x.2 ≤ T.vs) : Bd (T.w_wt (ct1 T.wt o xs)) :=
  ⟨h.home, h.last, h.vs, h.par, h.shown, h.src, h.srcN, h.line, h.lineN, h.tk, fun a x ha hx => by
    replace hx : x ∈ ct1 T.wt o xs a := hx
    by_cases e : a = o
    · subst e
      rw [ct1_s] at hx
      exact h2 x hx
    · rw [ct1_n e] at hx
      exact h.wt a x ha hx, fun a ha => by
    show (ct1 T.wt o xs a).length ≤ 2000
    by_cases e : a = o
    · subst e
      rw [ct1_s]
      exact h1
    · rw [ct1_n e]
      exact h.wtN a ha, h.postN, h.post, h.hg, h.fl⟩
theorem Bd.w_tk {T : CT} (h : Bd T) {o v : Nat} (h1 : v ≤ 9000) : Bd (T.w_tk (ct1 T.tk o v)) :=
  ⟨h.home, h.last, h.vs, h.par, h.shown, h.src, h.srcN, h.line, h.lineN, fun a ha => by
    show ct1 T.tk o v a ≤ 9000
    by_cases e : a = o
    · subst e
      rw [ct1_s]
      exact h1
    · rw [ct1_n e]
      exact h.tk a ha, h.wt, h.wtN, h.postN, h.post, h.hg, h.fl⟩
theorem Bd.w_par {T : CT} (h : Bd T) {o : Nat} {v : Option Nat} (h1 : ∀ j, v = some j → j < 12) : Bd (T.w_par (ct1 T.par o v)) :=
  ⟨h.home, h.last, h.vs, fun a j ha hj => by
    replace hj : ct1 T.par o v a = some j := hj
    by_cases e : a = o
    · subst e
      rw [ct1_s] at hj
      exact h1 j hj
    · rw [ct1_n e] at hj
      exact h.par a j ha hj, h.shown, h.src, h.srcN, h.line, h.lineN, h.tk, h.wt, h.wtN, h.postN, h.post, h.hg, h.fl⟩
theorem Bd.w_ow {T : CT} (h : Bd T) {z : Nat → Nat → Bool} : Bd (T.w_ow z) :=
  ⟨h.home, h.last, h.vs, h.par, h.shown, h.src, h.srcN, h.line, h.lineN, h.tk, h.wt, h.wtN, h.postN, h.post, h.hg, h.fl⟩
theorem Bd.w_up {T : CT} (h : Bd T) {z : Nat → Bool} : Bd (T.w_up z) :=
  ⟨h.home, h.last, h.vs, h.par, h.shown, h.src, h.srcN, h.line, h.lineN, h.tk, h.wt, h.wtN, h.postN, h.post, h.hg, h.fl⟩
theorem Bd.w_ep {T : CT} (h : Bd T) {z : Nat → Int32} : Bd (T.w_ep z) :=
  ⟨h.home, h.last, h.vs, h.par, h.shown, h.src, h.srcN, h.line, h.lineN, h.tk, h.wt, h.wtN, h.postN, h.post, h.hg, h.fl⟩
theorem Bd.w_draft {T : CT} (h : Bd T) {z : Nat → Int32} : Bd (T.w_draft z) :=
  ⟨h.home, h.last, h.vs, h.par, h.shown, h.src, h.srcN, h.line, h.lineN, h.tk, h.wt, h.wtN, h.postN, h.post, h.hg, h.fl⟩
theorem Bd.w_there {T : CT} (h : Bd T) {z : Nat → Bool} : Bd (T.w_there z) :=
  ⟨h.home, h.last, h.vs, h.par, h.shown, h.src, h.srcN, h.line, h.lineN, h.tk, h.wt, h.wtN, h.postN, h.post, h.hg, h.fl⟩
theorem Bd.w_reg {T : CT} (h : Bd T) {z : Nat → Int32} : Bd (T.w_reg z) :=
  ⟨h.home, h.last, h.vs, h.par, h.shown, h.src, h.srcN, h.line, h.lineN, h.tk, h.wt, h.wtN, h.postN, h.post, h.hg, h.fl⟩
theorem Bd.w_num {T : CT} (h : Bd T) {z : Nat → Int32} : Bd (T.w_num z) :=
  ⟨h.home, h.last, h.vs, h.par, h.shown, h.src, h.srcN, h.line, h.lineN, h.tk, h.wt, h.wtN, h.postN, h.post, h.hg, h.fl⟩
theorem Bd.w_mark {T : CT} (h : Bd T) {z : Nat → Int32} : Bd (T.w_mark z) :=
  ⟨h.home, h.last, h.vs, h.par, h.shown, h.src, h.srcN, h.line, h.lineN, h.tk, h.wt, h.wtN, h.postN, h.post, h.hg, h.fl⟩
theorem Bd.w_vote {T : CT} (h : Bd T) {z : Nat → Nat → Int32} : Bd (T.w_vote z) :=
  ⟨h.home, h.last, h.vs, h.par, h.shown, h.src, h.srcN, h.line, h.lineN, h.tk, h.wt, h.wtN, h.postN, h.post, h.hg, h.fl⟩
theorem Bd.w_code {T : CT} (h : Bd T) {z : Int32} : Bd (T.w_code z) :=
  ⟨h.home, h.last, h.vs, h.par, h.shown, h.src, h.srcN, h.line, h.lineN, h.tk, h.wt, h.wtN, h.postN, h.post, h.hg, h.fl⟩
theorem Bd.w_hg {T : CT} (h : Bd T) {v : Nat} (h1 : v ≤ 60) : Bd (T.w_hg v) :=
  ⟨h.home, h.last, h.vs, h.par, h.shown, h.src, h.srcN, h.line, h.lineN, h.tk, h.wt, h.wtN, h.postN, h.post, h1, h.fl⟩
theorem Bd.w_fl {T : CT} (h : Bd T) {v : Nat} (h1 : v ≤ 30) : Bd (T.w_fl v) :=
  ⟨h.home, h.last, h.vs, h.par, h.shown, h.src, h.srcN, h.line, h.lineN, h.tk, h.wt, h.wtN, h.postN, h.post, h.hg, h1⟩
theorem Bd.w_home {T : CT} (h : Bd T) {p v : Nat} (h1 : v < 12) : Bd (T.w_home (ct1 T.home p v)) :=
  ⟨fun a ha => by
    show ct1 T.home p v a < 12
    by_cases e : a = p
    · subst e
      rw [ct1_s]
      exact h1
    · rw [ct1_n e]
      exact h.home a ha, h.last, h.vs, h.par, h.shown, h.src, h.srcN, h.line, h.lineN, h.tk, h.wt, h.wtN, h.postN, h.post, h.hg, h.fl⟩
theorem Bd.w_last {T : CT} (h : Bd T) {p v : Nat} (h1 : v ≤ T.vs) : Bd (T.w_last (ct1 T.last p v)) :=
  ⟨h.home, fun a ha => by
    show ct1 T.last p v a ≤ T.vs
    by_cases e : a = p
    · subst e
      rw [ct1_s]
      exact h1
    · rw [ct1_n e]
      exact h.last a ha, h.vs, h.par, h.shown, h.src, h.srcN, h.line, h.lineN, h.tk, h.wt, h.wtN, h.postN, h.post, h.hg, h.fl⟩
theorem Bd.w_vs {T : CT} (h : Bd T) {v : Nat} (h1 : T.vs ≤ v) (h2 : v ≤ 300) : Bd (T.w_vs v) :=
  ⟨h.home, fun p hp => Nat.le_trans (h.last p hp) h1, h2, h.par, fun o p ho hp => Nat.le_trans (h.shown o p ho hp) h1, h.src, h.srcN, fun o x ho hx => ⟨(h.line o x ho hx).1, Nat.le_trans (h.line o x ho hx).2 h1⟩, h.lineN, h.tk, fun o x ho hx => ⟨(h.wt o x ho hx).1, (h.wt o x ho hx).2.1, Nat.le_trans (h.wt o x ho hx).2.2 h1⟩, h.wtN, h.postN, fun x hx => ⟨(h.post x hx).1, (h.post x hx).2.1, (h.post x hx).2.2.1, (h.post x hx).2.2.2.1, Nat.le_trans (h.post x hx).2.2.2.2 h1⟩, h.hg, h.fl⟩
theorem Bd.put {T : CT} (h : Bd T) {o p v : Nat} {s : Option Nat} (h1 : v ≤ T.vs) (h2 : ∀ j, s = some j → j < 12) (h3 : v = 0 ↔ s = none) : Bd (y_put T o p v s) :=
  ⟨h.home, h.last, h.vs, h.par, fun a q ha hq => by
    show ct2 T.shown o p v a q ≤ T.vs
    by_cases e : a = o ∧ q = p
    · obtain ⟨rfl, rfl⟩ := e
      rw [ct2_s]
      exact h1
    · rw [ct2_n e]
      exact h.shown a q ha hq, fun a q j ha hq hj => by
    replace hj : ct2 T.src o p s a q = some j := hj
    by_cases e : a = o ∧ q = p
    · obtain ⟨rfl, rfl⟩ := e
      rw [ct2_s] at hj
      exact h2 j hj
    · rw [ct2_n e] at hj
      exact h.src a q j ha hq hj, fun a q ha hq => by
    show ct2 T.shown o p v a q = 0 ↔ ct2 T.src o p s a q = none
    by_cases e : a = o ∧ q = p
    · obtain ⟨rfl, rfl⟩ := e
      rw [ct2_s, ct2_s]
      exact h3
    · rw [ct2_n e, ct2_n e]
      exact h.srcN a q ha hq, h.line, h.lineN, h.tk, h.wt, h.wtN, h.postN, h.post, h.hg, h.fl⟩
theorem Bd.send {T : CT} (h : Bd T) {o k : Nat} {x : Nat × Nat} (ho : o < 12) (hk : 0 < k) (hk2 : k ≤ 9000) (hx : x.1 < 40) (hx2 : x.2 ≤ T.vs) : Bd (y_send T o k x) := by
  unfold y_send
  split
  · refine h.w_post ?_ ?_
    · simp
      omega
    · intro y hy
      rcases List.mem_append.1 hy with hy | hy
      · exact h.post y hy
      · rw [List.mem_singleton.1 hy]
        exact ⟨ho, hk, hk2, hx, hx2⟩
  · exact h
theorem Bd.tell {T : CT} (h : Bd T) {o p v : Nat} (ho : o < 12) (hp : p < 40) (hv : v ≤ T.vs) (hl : (T.line o).length < 9000) : Bd (y_tell T o p v) := by
  unfold y_tell
  refine Bd.send (h.w_line ?_ ?_) ho (by omega) (by omega) hp hv
  · simp
    omega
  · intro y hy
    rcases List.mem_append.1 hy with hy | hy
    · exact h.line o y ho hy
    · rw [List.mem_singleton.1 hy]
      exact ⟨hp, hv⟩
theorem Bd.set {T : CT} (h : Bd T) {o p v : Nat} {s : Option Nat} (ho : o < 12) (hp : p < 40) (hv : v ≤ T.vs) (h2 : ∀ j, s = some j → j < 12) (h3 : v = 0 ↔ s = none) (hl : (T.line o).length < 9000) : Bd (y_set T o p v s) := by
  unfold y_set
  split
  · exact Bd.tell (h.put hv h2 h3) ho hp hv hl
  · exact h.put hv h2 h3
theorem Bd.unset {T : CT} (h : Bd T) {o p j : Nat} (ho : o < 12) (hp : p < 40) (hl : (T.line o).length < 9000) : Bd (y_unset T o p j) := by
  unfold y_unset
  split
  · exact h.set ho hp (Nat.zero_le _) (fun j z => by cases z) (by simp) hl
  · exact h
theorem Bd.own {T : CT} (h : Bd T) {o p : Nat} (ho : o < 12) (hp : p < 40) (hV : 0 < T.last p) (hl : (T.line o).length < 9000) : Bd (y_own T o p) := by
  unfold y_own
  split
  · refine Bd.set h.w_ow ho hp (h.last p hp) (fun j z => by cases z; exact ho) ?_ hl
    constructor
    · intro z
      omega
    · intro z
      cases z
  · exact h.w_ow
theorem Bd.e23 {T : CT} (h : Bd T) {o : Nat} : Bd (y_e2 (y_e3 T o) o) :=
  Bd.w_tk (Bd.w_line h (Nat.zero_le _) (fun x hx => by cases hx)) (Nat.zero_le _)
theorem Bd.end {T : CT} (h : Bd T) {o : Nat} : Bd (y_end T o) :=
  Bd.w_wt (Bd.e23 (Bd.w_par h (fun j z => by cases z))) (Nat.zero_le _) (fun x hx => by cases hx)
/-- sums below n -/
def sN : Nat → (Nat → Nat) → Nat
  | 0, _ => 0
  | n + 1, f => sN n f + f n
theorem sN_c {f g : Nat → Nat} : ∀ {n : Nat}, (∀ i, i < n → f i = g i) → sN n f = sN n g
  | 0, _ => rfl
  | n + 1, h => by
    show sN n f + f n = sN n g + g n
    rw [sN_c (fun i hi => h i (by omega)), h n (by omega)]
theorem sN_u {f : Nat → Nat} {o v : Nat} : ∀ {n : Nat}, o < n → sN n (ct1 f o v) + f o = sN n f + v
  | 0, h => by omega
  | n + 1, h => by
    show sN n (ct1 f o v) + ct1 f o v n + f o = sN n f + f n + v
    by_cases e : n = o
    · subst e
      rw [ct1_s, sN_c (g := f) (fun i hi => ct1_n (by omega))]
      omega
    · rw [ct1_n e]
      have := sN_u (f := f) (v := v) (n := n) (o := o) (by omega)
      omega
theorem sN_le {f : Nat → Nat} {o : Nat} : ∀ {n : Nat}, o < n → f o ≤ sN n f
  | 0, h => by omega
  | n + 1, h => by
    show f o ≤ sN n f + f n
    by_cases e : n = o
    · subst e
      omega
    · have := sN_le (f := f) (n := n) (o := o) (by omega)
      omega
def bN (b : Bool) : Nat := if b then 1 else 0
/-- the potential: what stands in the lines, and what waits -/
def potL (T : CT) : Nat := sN 12 (fun o => (T.line o).length)
def potW (T : CT) : Nat := sN 12 (fun o => (T.wt o).length)
def potO (T : CT) : Nat := sN 12 (fun o => sN 40 (fun p => bN (T.ow o p)))
def pot (T : CT) : Nat := potL T + potW T + potO T
theorem potL_u {T : CT} {o : Nat} {xs : List (Nat × Nat)} (ho : o < 12) : potL (T.w_line (ct1 T.line o xs)) + (T.line o).length = potL T + xs.length := by
  have := sN_u (f := fun o => (T.line o).length) (v := xs.length) ho
  have e : potL (T.w_line (ct1 T.line o xs)) = sN 12 (ct1 (fun o => (T.line o).length) o xs.length) := by
    refine sN_c (fun i _ => ?_)
    show (ct1 T.line o xs i).length = _
    by_cases e : i = o
    · subst e
      rw [ct1_s, ct1_s]
    · rw [ct1_n e, ct1_n e]
  rw [e]
  exact this
theorem potW_u {T : CT} {o : Nat} {xs : List (Nat × Nat)} (ho : o < 12) : potW (T.w_wt (ct1 T.wt o xs)) + (T.wt o).length = potW T + xs.length := by
  have := sN_u (f := fun o => (T.wt o).length) (v := xs.length) ho
  have e : potW (T.w_wt (ct1 T.wt o xs)) = sN 12 (ct1 (fun o => (T.wt o).length) o xs.length) := by
    refine sN_c (fun i _ => ?_)
    show (ct1 T.wt o xs i).length = _
    by_cases e : i = o
    · subst e
      rw [ct1_s, ct1_s]
    · rw [ct1_n e, ct1_n e]
  rw [e]
  exact this
theorem potO_u {T : CT} {o p : Nat} {v : Bool} (ho : o < 12) (hp : p < 40) : potO (T.w_ow (ct2 T.ow o p v)) + bN (T.ow o p) = potO T + bN v := by
  have h1 := sN_u (f := fun o => sN 40 (fun p => bN (T.ow o p))) (v := sN 40 (ct1 (fun p => bN (T.ow o p)) p (bN v))) ho
  have h2 := sN_u (f := fun p => bN (T.ow o p)) (v := bN v) hp
  have e : potO (T.w_ow (ct2 T.ow o p v)) = sN 12 (ct1 (fun o => sN 40 (fun p => bN (T.ow o p))) o (sN 40 (ct1 (fun p => bN (T.ow o p)) p (bN v)))) := by
    refine sN_c (fun i _ => ?_)
    by_cases e : i = o
    · subst e
      rw [ct1_s]
      refine sN_c (fun q _ => ?_)
      show bN (ct2 T.ow i p v i q) = _
      by_cases e2 : q = p
      · subst e2
        rw [ct2_s, ct1_s]
      · rw [ct2_n (fun z => e2 z.2), ct1_n e2]
    · rw [ct1_n e]
      refine sN_c (fun q _ => ?_)
      show bN (ct2 T.ow o p v i q) = _
      rw [ct2_n (fun z => e z.1)]
  rw [e]
  replace h1 : _ + sN 40 (fun p => bN (T.ow o p)) = potO T + _ := h1
  replace h2 : _ + bN (T.ow o p) = _ + bN v := h2
  omega
theorem pot_line {T : CT} {o : Nat} (ho : o < 12) : (T.line o).length ≤ potL T := sN_le (f := fun o => (T.line o).length) ho
theorem pot_wt {T : CT} {o : Nat} (ho : o < 12) : (T.wt o).length ≤ potW T := sN_le (f := fun o => (T.wt o).length) ho
theorem pot_ow {T : CT} {o p : Nat} (ho : o < 12) (hp : p < 40) : bN (T.ow o p) ≤ potO T :=
  Nat.le_trans (sN_le (f := fun p => bN (T.ow o p)) hp) (sN_le (f := fun o => sN 40 (fun p => bN (T.ow o p))) ho)
theorem pot_send {T : CT} {o k : Nat} {x : Nat × Nat} : pot (y_send T o k x) = pot T := by
  unfold y_send
  split <;> rfl
theorem pot_tell {T : CT} {o p v : Nat} (ho : o < 12) : pot (y_tell T o p v) = pot T + 1 := by
  unfold y_tell
  rw [pot_send]
  have := potL_u (T := T) (o := o) (xs := T.line o ++ [(p, v)]) ho
  have e2 : potW (T.w_line (ct1 T.line o (T.line o ++ [(p, v)]))) = potW T := rfl
  have e3 : potO (T.w_line (ct1 T.line o (T.line o ++ [(p, v)]))) = potO T := rfl
  simp only [List.length_append, List.length_cons, List.length_nil] at this
  unfold pot
  omega
theorem pot_set {T : CT} {o p v : Nat} {s : Option Nat} (ho : o < 12) : pot (y_set T o p v s) ≤ pot T + 1 := by
  unfold y_set
  split
  · rw [pot_tell ho]
    exact Nat.le_refl _
  · exact Nat.le_succ (pot T)
theorem pot_unset {T : CT} {o p j : Nat} (ho : o < 12) : pot (y_unset T o p j) ≤ pot T + 1 := by
  unfold y_unset
  split
  · exact pot_set ho
  · exact Nat.le_succ _
theorem pot_own {T : CT} {o p : Nat} (ho : o < 12) (hp : p < 40) : pot (y_own T o p) + bN (T.ow o p) ≤ pot T + 1 := by
  unfold y_own
  split
  · have h1 := pot_set (T := T.w_ow (ct2 T.ow o p false)) (o := o) (p := p) (v := T.last p) (s := some o) ho
    have h2 := potO_u (T := T) (v := false) ho hp
    have e : bN false = 0 := rfl
    have e1 : potL (T.w_ow (ct2 T.ow o p false)) = potL T := rfl
    have e2 : potW (T.w_ow (ct2 T.ow o p false)) = potW T := rfl
    unfold pot at h1 ⊢
    omega
  · have h2 := potO_u (T := T) (v := true) ho hp
    have e : bN true = 1 := rfl
    have e1 : potL (T.w_ow (ct2 T.ow o p true)) = potL T := rfl
    have e2 : potW (T.w_ow (ct2 T.ow o p true)) = potW T := rfl
    unfold pot
    omega
theorem pot_e1 {T : CT} {o : Nat} : pot (y_e1 T o) = pot T := rfl
theorem pot_e2 {T : CT} {o : Nat} : pot (y_e2 T o) = pot T := rfl
theorem pot_e3 {T : CT} {o : Nat} (ho : o < 12) : pot (y_e3 T o) ≤ pot T := by
  have h1 := potL_u (T := T) (o := o) (xs := []) ho
  have e2 : potW (y_e3 T o) = potW T := rfl
  have e3 : potO (y_e3 T o) = potO T := rfl
  have e4 : potL (y_e3 T o) = potL (T.w_line (ct1 T.line o [])) := rfl
  simp only [List.length_nil] at h1
  unfold pot
  omega
theorem pot_e4 {T : CT} {o : Nat} (ho : o < 12) : pot (y_e4 T o) ≤ pot T := by
  have h1 := potW_u (T := T) (o := o) (xs := []) ho
  have e2 : potL (y_e4 T o) = potL T := rfl
  have e3 : potO (y_e4 T o) = potO T := rfl
  have e4 : potW (y_e4 T o) = potW (T.w_wt (ct1 T.wt o [])) := rfl
  simp only [List.length_nil] at h1
  unfold pot
  omega
theorem pot_end {T : CT} {o : Nat} (ho : o < 12) : pot (y_end T o) ≤ pot T := by
  have h1 := pot_e3 (T := y_e1 T o) ho
  have h2 := pot_e4 (T := y_e2 (y_e3 (y_e1 T o) o) o) ho
  rw [pot_e2] at h2
  rw [pot_e1] at h1
  exact Nat.le_trans h2 h1
