/-! The ghost machine. A heap of entries, each under its number (the order of making); values whose references are such numbers. 'GZ': from every real state that a ghost state pictures, the method goes on to an end of which K speaks. -/
/-- an entry: an array (kind, length, contents) or an object (number of its class, fields) -/
abbrev gzE : Type := (Nat × Nat × (Nat → Value)) ⊕ (Nat × List Value)
abbrev gzM : Type := Nat → Option gzE
/-- how a method ends: it returned (perhaps a value), or it threw the object of that number -/
abbrev gzO : Type := Option Value ⊕ Nat
abbrev gzK : Type := gzO → gzM → Nat → Nat → Nat → Prop
/-- the words of the tables; the classes; the kinds of arrays; static fields that hold the fixed cell of that number; classes whose mirror is the fixed cell of that number; static fields that hold some reference; texts; casts that fail -/
abbrev gzP : Type := List Cond × List vw_C × List FieldType × List (String × String × String × Nat) × List (String × Nat) × List (String × String × String) × List (String × Nat × String) × List (String × String)
/-- the numbers of the arrays' classes, of the classes and slots; the first new address; the cells and slots in all; the addresses of the fixed cells -/
abbrev gzD : Type := (Nat → ClassId) × va_G × Nat × Nat × Nat × List Nat
/-- a method: name, code, the frames and words that its callees want, what it returns, its handlers -/
abbrev gzF : Type := MethodName × ByteArray × (Nat × Nat) × Option FieldType × List (Nat × Nat × Nat × Nat)
def gz_up (M : gzM) (k : Nat) (e : gzE) : gzM := fun j => if j = k then some e else M j
theorem gz_up_s {M : gzM} {k : Nat} {e : gzE} : gz_up M k e k = some e := by simp [gz_up]
theorem gz_up_n {M : gzM} {k j : Nat} {e : gzE} (h : j ≠ k) : gz_up M k e j = M j := by simp [gz_up, h]
/-- a real value that a ghost value pictures; q: the real addresses of the numbers -/
def gz_v (q : List Nat) (v w : Value) : Prop := match v with
  | .ref k => ∃ a, q[k]? = some a ∧ w = .ref a
  | x => w = x
def gz_s (q : List Nat) : List Value → List Value → Prop
  | [], ws => ws = []
  | v :: vs, ws => ∃ w ws', ws = w :: ws' ∧ gz_v q v w ∧ gz_s q vs ws'
def gz_l (q : List Nat) (gl : List (Option Value)) (ls : Array Slot) : Prop := ls.size = gl.length ∧ lv_wf ls ∧ ∀ (i : Nat) (v : Value), gl[i]? = some (some v) → ∃ w, ls[i]? = some (.val w) ∧ gz_v q v w
/-- a cell that is an array: its class, its contents -/
def gz_ar (D : gzD) (kd n : Nat) (g : Nat → Value) (c : Cell) : Prop := c.cls = D.1 kd ∧ c.slots = (arrV (D.1 kd) n g).slots ∧ (∀ z, c.vm ≠ .statics z) ∧ c.vm ≠ .unknown
theorem gz_ar.of {D : gzD} {kd n : Nat} {g : Nat → Value} {c : Cell} {s : State} {ty : FieldType} (h : gz_ar D kd n g c) (hA : ArrOfT s (D.1 kd) ty) : s.isArrayOf c ty := by
  obtain ⟨-, k, hk, comp, hc⟩ := hA n g
  exact ⟨h.2.2.1, k, by rw [h.1]; exact hk, comp, hc⟩
theorem gz_ar.size {D : gzD} {kd n : Nat} {g : Nat → Value} {c : Cell} (h : gz_ar D kd n g c) : c.slots.size = n := by rw [h.2.1, arrV_size]
theorem gz_ar.read {D : gzD} {kd n i : Nat} {g : Nat → Value} {c : Cell} (h : gz_ar D kd n g c) (hi : i < n) : c.slots[i]? = some (g i) := by rw [h.2.1, arrV_read _ _ hi]
def gz_e (P : gzP) (D : gzD) (q : List Nat) (e : gzE) (a : Nat) (H : Heap) : Prop := match e with
  | .inl (kd, n, f) => ∃ (g : Nat → Value) (c : Cell), H[a]? = some c ∧ gz_ar D kd n g c ∧ (∀ j, j < n → gz_v q (f j) (g j)) ∧ ((D.2.2.1 ≤ a ∧ c = arrV (D.1 kd) n g) ∨ n = 0 ∨ kd = 0)
  | .inr (ci, fs) => ∃ (r : vw_C) (g : Nat → Value), P.2.1[ci]? = some r ∧ fs.length = r.2.2 ∧ t_OB a (D.2.1.1 ci) r.2.2 (D.2.1.2 ci) H g ∧ (∀ (j : Nat) (v : Value), fs[j]? = some v → gz_v q v (g j)) ∧ D.2.2.1 ≤ a
def gz_H (P : gzP) (D : gzD) (q : List Nat) (M : gzM) (n : Nat) (H : Heap) : Prop :=
  q.length = n ∧ ((∀ (i j a : Nat), 0 < i → 0 < j → q[i]? = some a → q[j]? = some a → i = j) ∧ M 0 = none ∧ 0 < n) ∧ ((∀ (i a : Nat), 0 < i → q[i]? = some a → a < H.size) ∧ D.2.2.1 ≤ H.size ∧ D.2.2.2.2.2 <+: q) ∧ ∀ (k : Nat) (e : gzE), M k = some e → ∃ a, q[k]? = some a ∧ gz_e P D q e a H
theorem gz_H.pos {P : gzP} {D : gzD} {q : List Nat} {M : gzM} {n : Nat} {H : Heap} (h : gz_H P D q M n H) {k : Nat} {e : gzE} (hM : M k = some e) : 0 < k := by
  rcases Nat.eq_zero_or_pos k with z | z
  · rw [z, h.2.1.2.1] at hM
    cases hM
  · exact z
theorem gz_e.mkA {P : gzP} {D : gzD} {q : List Nat} {kd n a : Nat} {f g : Nat → Value} {H : Heap} (h1 : H[a]? = some (arrV (D.1 kd) n g)) (h2 : ∀ j, j < n → gz_v q (f j) (g j)) (h3 : D.2.2.1 ≤ a) : gz_e P D q (.inl (kd, n, f)) a H := ⟨g, _, h1, ⟨rfl, rfl, fun z h => (by cases h), fun h => (by cases h)⟩, h2, Or.inl ⟨h3, rfl⟩⟩
theorem gz_e.wr {P : gzP} {D : gzD} {q : List Nat} {kd n a : Nat} {f : Nat → Value} {H : Heap} (h : gz_e P D q (.inl (kd, n, f)) a H) (hn : n ≠ 0) (hk : kd ≠ 0) : ∃ g : Nat → Value, H[a]? = some (arrV (D.1 kd) n g) ∧ (∀ j, j < n → gz_v q (f j) (g j)) ∧ D.2.2.1 ≤ a := by
  obtain ⟨g, c, h1, h2, h3, h4⟩ := h
  rcases h4 with ⟨h5, h6⟩ | z | z
  · rw [h6] at h1
    exact ⟨g, h1, h3, h5⟩
  · exact absurd z hn
  · exact absurd z hk
theorem gz_pre {q q' : List Nat} (hp : q <+: q') {k a : Nat} (h : q[k]? = some a) : q'[k]? = some a := by
  obtain ⟨t, rfl⟩ := hp
  rw [List.getElem?_append_left (List.getElem?_eq_some_iff.mp h).1]
  exact h
theorem gz_v.mono {q q' : List Nat} {v w : Value} (hp : q <+: q') (h : gz_v q v w) : gz_v q' v w := by
  cases v with
  | ref k =>
    obtain ⟨a, h1, h2⟩ := h
    exact ⟨a, gz_pre hp h1, h2⟩
  | _ => exact h
theorem gz_v.cat {q : List Nat} {v w : Value} (h : gz_v q v w) : w.category = v.category := by
  cases v with
  | ref k =>
    obtain ⟨a, h1, h2⟩ := h
    rw [h2]; rfl
  | _ => rw [show w = _ from h]
theorem gz_s.mono {q q' : List Nat} (hp : q <+: q') : ∀ {vs ws : List Value}, gz_s q vs ws → gz_s q' vs ws
  | [], _, h => h
  | _ :: _, _, ⟨w, ws', e, hv, hs⟩ => ⟨w, ws', e, hv.mono hp, gz_s.mono hp hs⟩
theorem gz_l.mono {q q' : List Nat} {gl : List (Option Value)} {ls : Array Slot} (hp : q <+: q') (h : gz_l q gl ls) : gz_l q' gl ls :=
  ⟨h.1, h.2.1, fun i v hv => by
    obtain ⟨w, a, b⟩ := h.2.2 i v hv
    exact ⟨w, a, b.mono hp⟩⟩
theorem gz_e.to {P : gzP} {D : gzD} {q q' : List Nat} {e : gzE} {a : Nat} {H H1 : Heap} (hp : q <+: q') (h : gz_e P D q e a H) (hq : H1[a]? = H[a]?) : gz_e P D q' e a H1 := by
  rcases e with ⟨kd, n, f⟩ | ⟨ci, fs⟩
  · obtain ⟨g, c, h1, h2, h3, h4⟩ := h
    exact ⟨g, c, hq.trans h1, h2, fun j hj => (h3 j hj).mono hp, h4⟩
  · obtain ⟨r, g, h1, h2, h3, h4, h5⟩ := h
    exact ⟨r, g, h1, h2, h3.kept hq, fun j v hv => (h4 j v hv).mono hp, h5⟩
theorem gz_H.set {P : gzP} {D : gzD} {q : List Nat} {M : gzM} {n : Nat} {H H1 : Heap} (h : gz_H P D q M n H) {k a : Nat} {e e0 : gzE} (hM : M k = some e0) (ha : q[k]? = some a) (hz : H1.size = H.size) (hq : ∀ b : Nat, b ≠ a → H1[b]? = H[b]?) (he : gz_e P D q e a H1) : gz_H P D q (gz_up M k e) n H1 := by
  have hk := h.pos hM
  obtain ⟨h1, ⟨h2, h20, h21⟩, h3, h4⟩ := h
  refine ⟨h1, ⟨h2, by rw [gz_up_n (by omega)]; exact h20, h21⟩, ⟨fun i b hi hb => by rw [hz]; exact h3.1 i b hi hb, by rw [hz]; exact h3.2.1, h3.2.2⟩, fun j e' hj => ?_⟩
  by_cases hjk : j = k
  · rw [hjk, gz_up_s] at hj
    cases hj
    exact ⟨a, by rw [hjk]; exact ha, he⟩
  · rw [gz_up_n hjk] at hj
    obtain ⟨b, hb, hb2⟩ := h4 j e' hj
    have hj0 : 0 < j := by
      rcases Nat.eq_zero_or_pos j with z | z
      · rw [z, h20] at hj
        cases hj
      · exact z
    exact ⟨b, hb, hb2.to (List.prefix_refl _) (hq b (fun z => hjk (h2 j k b hj0 hk hb (by rw [z]; exact ha))))⟩
theorem gz_H.push {P : gzP} {D : gzD} {q : List Nat} {M : gzM} {n : Nat} {H H1 : Heap} (h : gz_H P D q M n H) {e : gzE} (hz : H1.size = H.size + 1) (hq : ∀ b : Nat, b < H.size → H1[b]? = H[b]?) (he : gz_e P D (q ++ [H.size]) e H.size H1) : gz_H P D (q ++ [H.size]) (gz_up M n e) (n + 1) H1 := by
  obtain ⟨h1, ⟨h2, h20, h21⟩, h3, h4⟩ := h
  have hn : (q ++ [H.size])[n]? = some H.size := by
    rw [List.getElem?_append_right (by omega), show n - q.length = 0 by omega]
    rfl
  have key : ∀ (i a : Nat), 0 < i → (q ++ [H.size])[i]? = some a → (q[i]? = some a ∧ a < H.size) ∨ (i = n ∧ a = H.size) := by
    intro i a hi0 hi
    by_cases hl : i < q.length
    · rw [List.getElem?_append_left hl] at hi
      exact Or.inl ⟨hi, h3.1 i a hi0 hi⟩
    · rw [List.getElem?_append_right (by omega)] at hi
      have hz : i - q.length < 1 := (List.getElem?_eq_some_iff.mp hi).1
      rw [show i - q.length = 0 by omega] at hi
      cases hi
      exact Or.inr ⟨by omega, rfl⟩
  refine ⟨by simp [h1], ⟨fun i j a hi0 hj0 hi hj => ?_, by rw [gz_up_n (by omega)]; exact h20, by omega⟩, ⟨fun i b hi0 hb => ?_, by have := h3.2.1; omega, h3.2.2.trans (List.prefix_append _ _)⟩, fun j e' hj => ?_⟩
  · rcases key i a hi0 hi with ⟨a1, a2⟩ | ⟨a1, a2⟩ <;> rcases key j a hj0 hj with ⟨b1, b2⟩ | ⟨b1, b2⟩
    · exact h2 i j a hi0 hj0 a1 b1
    · omega
    · omega
    · omega
  · rcases key i b hi0 hb with ⟨a1, a2⟩ | ⟨a1, a2⟩ <;> omega
  · by_cases hjn : j = n
    · rw [hjn, gz_up_s] at hj
      cases hj
      exact ⟨H.size, by rw [hjn]; exact hn, he⟩
    · rw [gz_up_n hjn] at hj
      obtain ⟨b, hb, hb2⟩ := h4 j e' hj
      have hj0 : 0 < j := by
        rcases Nat.eq_zero_or_pos j with z | z
        · rw [z, h20] at hj
          cases hj
        · exact z
      exact ⟨b, gz_pre (List.prefix_append _ _) hb, hb2.to (List.prefix_append _ _) (hq b (h3.1 j b hj0 hb))⟩
def gz_good : Cond → Bool
  | .fieldLinkNest .. | .methodLinkNest .. | .castable .. | .declares .. | .arrayOver (.object _) => true
  | w => goodWord w
theorem gz_word {args a' : Array Value} {s U : State} (hW : s.WarmedH U.vm) {w : Cond} (hg : gz_good w = true) (h : w.before args s = true) : w.before a' U = true := by
  cases w with
  | fieldLinkNest a i b n d h0 => exact va_Nw.use rfl (va_Nw.warmF hW (va_Nw.of rfl h))
  | methodLinkNest a i x h0 => exact va_Nw.use rfl (va_Nw.warmM hW (va_Nw.of rfl h))
  | castable C T => exact va_Nw.use rfl (va_Nw.warmC hW (va_Nw.of rfl h))
  | declares x => exact va_Nw.use rfl (va_Nw.warmD hW (va_Nw.of rfl h))
  | arrayOver t =>
    cases t with
    | object C => exact va_AO.use (va_AO.moved hW.alike (va_AO.of h))
    | _ => exact word_at hW (good_of_word hg) h
  | _ => exact word_at hW (good_of_word hg) h
/-- what the tables say of the classes and of the arrays' classes; what the old cells say of static fields and mirrors -/
def gz_T (P : gzP) (D : gzD) (s : State) : Prop := (∀ (c : Nat) (r : vw_C), P.2.1[c]? = some r → u_Kn s r.1 r.2.1 r.2.2 (D.2.1.1 c) (D.2.1.2 c)) ∧ (∀ (k : Nat) (ty : FieldType), P.2.2.1[k]? = some ty → ArrOfT s (D.1 k) ty ∧ (k ≠ 0 → va_RA s (D.1 k) ty)) ∧
  (∀ x ∈ P.2.2.2.1, ∃ a, D.2.2.2.2.2[x.2.2.2]? = some a ∧ va_Z x.1 x.2.1 x.2.2.1 (.ref a) (fun b => D.2.2.1 ≤ b) s s.heap) ∧ (∀ x ∈ P.2.2.2.2.1, ∃ a, D.2.2.2.2.2[x.2]? = some a ∧ va_Mi x.1 a s) ∧ (∀ x ∈ P.2.2.2.2.2.1, vx_Zq x.1 x.2.1 x.2.2 (fun b => D.2.2.1 ≤ b) s s.heap) ∧ (∀ x ∈ P.2.2.2.2.2.2.1, ∃ a, vk_R x.1 x.2.1 x.2.2 a s) ∧ ∀ x ∈ P.2.2.2.2.2.2.2, va_Nc x.1 x.2 s
theorem gz_T.moved {P : gzP} {D : gzD} {u U : State} (hW : u.WarmedH U.vm) (hq : ∀ a : Nat, a < u.heap.size → ¬ D.2.2.1 ≤ a → U.heap[a]? = u.heap[a]?) (h : gz_T P D u) : gz_T P D U := by
  have hvm := hW.alike
  refine ⟨fun c r hr => u_Kn_moved hvm (h.1 c r hr), fun k ty hk => ⟨arrOfT_moved hvm (h.2.1 k ty hk).1, fun h0 => ((h.2.1 k ty hk).2 h0).moved hvm⟩, fun x hx => ?_, fun x hx => ?_, fun x hx => ?_, fun x hx => ?_, fun x hx => (h.2.2.2.2.2.2 x hx).moved hvm⟩
  · obtain ⟨a, h1, h2⟩ := h.2.2.1 x hx
    exact ⟨a, h1, (h2.moved hvm).kept hq⟩
  · obtain ⟨a, h1, h2⟩ := h.2.2.2.1 x hx
    exact ⟨a, h1, h2.moved hvm⟩
  · exact ((h.2.2.2.2.1 x hx).moved hvm).kept hq
  · obtain ⟨a, h1⟩ := h.2.2.2.2.2.1 x hx
    exact ⟨a, h1.warm hW⟩
/-- the room: so much is left as the ghost's counts say -/
def gz_R (D : gzD) (R : Room) (cells slots nc ns : Nat) : Prop := cells ≤ R.cells ∧ slots ≤ R.slots ∧ D.2.2.2.1 + cells ≤ R.cells + nc ∧ D.2.2.2.2.1 + slots ≤ R.slots + ns
/-- a method's body in which a walk stands -/
def gz_C (P : gzP) (D : gzD) (F : gzF) (nL : Nat) (p : Program) (R : Room) (s : State) (m : MethodId) (args : Array Value) (meth : Method) (c : Code) : Prop :=
  p.tables.exec = Jvm.exec ∧ c.code = F.2.1 ∧ c.maxLocals = nL ∧ s.vm.findClass F.1.cls = some m.cls ∧ meth.name = F.1.name ∧ meth.sig.returnType = F.2.2.2.1 ∧ meth.locks = false ∧ (∀ w ∈ P.1, w.before args s = true) ∧ (∀ w ∈ P.1, gz_good w = true) ∧ gz_T P D s ∧ F.2.2.1.1 ≤ R.frames ∧ F.2.2.1.2 ≤ R.locals ∧ c.exceptionTable.toList.map (fun h => (h.startPc, h.endPc, h.handlerPc, h.catchType)) = F.2.2.2.2
def gz_o (q : List Nat) (g : gzO) (o : Outcome) : Prop := match g with
  | .inl none => o = .returned none
  | .inl (some v) => ∃ w, o = .returned (some w) ∧ gz_v q v w
  | .inr k => ∃ a, q[k]? = some a ∧ o = .threw a
/-- the written places: of new cells -/
def gz_L (D : gzD) (q : List Nat) (L : List Loc) : Prop := ∀ x ∈ L, x.base ∈ q ∧ D.2.2.1 ≤ x.base
/-- a method's end -/
def gz_E (P : gzP) (D : gzD) (R : Room) (s : State) (q0 : List Nat) (K : gzK) (o : Outcome) (t : State) : Prop :=
  ∃ (g : gzO) (M : gzM) (n nc ns : Nat) (q : List Nat) (L : List Loc) (k sl : Nat), K g M n nc ns ∧ q0 <+: q ∧ gz_o q g o ∧ gz_H P D q M n t.heap ∧ s.WarmedH t.vm ∧ s.sameButNew ({ t with vm := s.vm } : State) L k sl ∧ gz_L D q L ∧ gz_R D R k sl nc ns
def gz_Q (P : gzP) (D : gzD) (R : Room) (s : State) (below : List Frame) (q0 : List Nat) (K : gzK) : State → Prop := fun t => ∃ o, t.status = .running ∧ Ended t below o ∧ gz_E P D R s q0 K o t
def GZ (l : Launch) (P : gzP) (D : gzD) (F : gzF) (K : gzK) (pc : Nat) (gl : List (Option Value)) (gst : List Value) (M : gzM) (n nc ns : Nat) : Prop :=
  ∀ (p : Program) (e : Env) (R : Room) (s : State) (m : MethodId) (args : Array Value) (below : List Frame) (meth : Method) (c : Code) (H : Heap) (locs : List Loc) (cells slots : Nat) (q0 q : List Nat) (ls : Array Slot) (st : List Value),
    gz_C P D F gl.length p R s m args meth c → q0 <+: q → gz_l q gl ls → gz_s q gst st → gz_H P D q M n H → gz_R D R cells slots nc ns → gz_L D q locs →
    W p l e R s m args below meth c H locs cells slots (gz_Q P D R s below q0 K) (F0 m pc ls st)
section GZ1
variable {l : Launch} {P : gzP} {D : gzD} {F : gzF} {K : gzK} {pc pc' : Nat} {gl gl' : List (Option Value)} {gst gst' : List Value} {M M' : gzM} {n nc ns : Nat}
theorem GZ.pure (h : ∀ (p : Program) (e : Env) (R : Room) (s : State) (m : MethodId) (args : Array Value) (below : List Frame) (meth : Method) (c : Code) (H : Heap) (locs : List Loc) (cells slots : Nat) (Q : State → Prop) (q : List Nat) (ls : Array Slot) (st : List Value),
      gz_C P D F gl.length p R s m args meth c → gz_l q gl ls → gz_s q gst st → gz_H P D q M n H → (∀ (ls' : Array Slot) (st' : List Value), gz_l q gl' ls' → gz_s q gst' st' → W p l e R s m args below meth c H locs cells slots Q (F0 m pc' ls' st')) → W p l e R s m args below meth c H locs cells slots Q (F0 m pc ls st))
    (hn : gl'.length = gl.length) (k : GZ l P D F K pc' gl' gst' M n nc ns) : GZ l P D F K pc gl gst M n nc ns := by
  intro p e R s m args below meth c H locs cells slots q0 q ls st hC h0 hl hs hH hR hL
  exact h p e R s m args below meth c H locs cells slots _ q ls st hC hl hs hH (fun ls' st' hl' hs' => k p e R s m args below meth c H locs cells slots q0 q ls' st' (by rw [hn]; exact hC) h0 hl' hs' hH hR hL)
/-- two ways on -/
theorem GZ.fork {C : Prop} {pc1 pc2 : Nat} (h : ∀ (p : Program) (e : Env) (R : Room) (s : State) (m : MethodId) (args : Array Value) (below : List Frame) (meth : Method) (c : Code) (H : Heap) (locs : List Loc) (cells slots : Nat) (Q : State → Prop) (q : List Nat) (ls : Array Slot) (st : List Value),
      gz_C P D F gl.length p R s m args meth c → gz_s q gst st → gz_H P D q M n H → (C → ∀ (st' : List Value), gz_s q gst' st' → W p l e R s m args below meth c H locs cells slots Q (F0 m pc1 ls st')) → (¬ C → ∀ (st' : List Value), gz_s q gst' st' → W p l e R s m args below meth c H locs cells slots Q (F0 m pc2 ls st')) → W p l e R s m args below meth c H locs cells slots Q (F0 m pc ls st))
    (k1 : C → GZ l P D F K pc1 gl gst' M n nc ns) (k2 : ¬ C → GZ l P D F K pc2 gl gst' M n nc ns) : GZ l P D F K pc gl gst M n nc ns := by
  intro p e R s m args below meth c H locs cells slots q0 q ls st hC h0 hl hs hH hR hL
  exact h p e R s m args below meth c H locs cells slots _ q ls st hC hs hH (fun hc st' hs' => k1 hc p e R s m args below meth c H locs cells slots q0 q ls st' hC h0 hl hs' hH hR hL) (fun hc st' hs' => k2 hc p e R s m args below meth c H locs cells slots q0 q ls st' hC h0 hl hs' hH hR hL)
end GZ1
theorem gz_s.i {q : List Nat} {x : Int32} {vs ws : List Value} (h : gz_s q (.int x :: vs) ws) : ∃ ws', ws = .int x :: ws' ∧ gz_s q vs ws' := by
  obtain ⟨w, ws', e, hv, hs⟩ := h
  have hv : w = .int x := hv
  exact ⟨ws', by rw [e, hv], hs⟩
theorem gz_s.j {q : List Nat} {x : Int64} {vs ws : List Value} (h : gz_s q (.long x :: vs) ws) : ∃ ws', ws = .long x :: ws' ∧ gz_s q vs ws' := by
  obtain ⟨w, ws', e, hv, hs⟩ := h
  have hv : w = .long x := hv
  exact ⟨ws', by rw [e, hv], hs⟩
theorem gz_s.n {q : List Nat} {vs ws : List Value} (h : gz_s q (.null :: vs) ws) : ∃ ws', ws = .null :: ws' ∧ gz_s q vs ws' := by
  obtain ⟨w, ws', e, hv, hs⟩ := h
  have hv : w = .null := hv
  exact ⟨ws', by rw [e, hv], hs⟩
theorem gz_s.a {q : List Nat} {k : Nat} {vs ws : List Value} (h : gz_s q (.ref k :: vs) ws) : ∃ (a : Nat) (ws' : List Value), ws = .ref a :: ws' ∧ q[k]? = some a ∧ gz_s q vs ws' := by
  obtain ⟨w, ws', e, ⟨a, h1, h2⟩, hs⟩ := h
  exact ⟨a, ws', by rw [e, h2], h1, hs⟩
theorem gz_s.len {q : List Nat} : ∀ {vs ws : List Value}, gz_s q vs ws → ws.length = vs.length
  | [], _, h => by rw [show _ = [] from h]
  | _ :: _, _, ⟨w, ws', e, _, hs⟩ => by rw [e, List.length_cons, List.length_cons, gz_s.len hs]
theorem gz_s.cats {q : List Nat} : ∀ {vs ws : List Value}, gz_s q vs ws → (ws.map fun v => v.category).sum = (vs.map fun v => v.category).sum
  | [], _, h => by rw [show _ = [] from h]
  | _ :: _, _, ⟨w, ws', e, hv, hs⟩ => by rw [e, List.map_cons, List.map_cons, List.sum_cons, List.sum_cons, gz_s.cats hs, hv.cat]
theorem gz_s.split {q : List Nat} : ∀ {us vs ws : List Value}, gz_s q (us ++ vs) ws → ∃ ws1 ws2, ws = ws1 ++ ws2 ∧ gz_s q us ws1 ∧ gz_s q vs ws2
  | [], _, ws, h => ⟨[], ws, rfl, rfl, h⟩
  | _ :: _, _, _, ⟨w, ws', e, hv, hs⟩ => by
    obtain ⟨w1, w2, e1, h1, h2⟩ := gz_s.split hs
    exact ⟨w :: w1, w2, by rw [e, e1]; rfl, ⟨w, w1, rfl, hv, h1⟩, h2⟩
theorem gz_s.app {q : List Nat} : ∀ {us vs w1 w2 : List Value}, gz_s q us w1 → gz_s q vs w2 → gz_s q (us ++ vs) (w1 ++ w2)
  | [], _, _, _, h1, h2 => by rw [show _ = [] from h1]; exact h2
  | _ :: _, _, _, _, ⟨w, ws', e, hv, hs⟩, h2 => ⟨w, ws' ++ _, by rw [e]; rfl, hv, gz_s.app hs h2⟩
theorem gz_s.rev {q : List Nat} : ∀ {us ws : List Value}, gz_s q us ws → gz_s q us.reverse ws.reverse
  | [], _, h => by rw [show _ = [] from h]; rfl
  | _ :: _, _, ⟨w, ws', e, hv, hs⟩ => by
    rw [e, List.reverse_cons, List.reverse_cons]
    exact gz_s.app (gz_s.rev hs) ⟨w, [], rfl, hv, rfl⟩
/-- cells older than the ghost's are as they were -/
theorem gz_old {D : gzD} {q : List Nat} {p : Program} {l : Launch} {e : Env} {R : Room} {s : State} {m : MethodId} {args : Array Value} {below : List Frame} {meth : Method} {c : Code} {T : State} {locs : List Loc} {cells slots : Nat} (X : Stand p l e R s m args below meth c T locs cells slots) (hL : gz_L D q locs) : ∀ a : Nat, a < s.heap.size → ¬ D.2.2.1 ≤ a → T.heap[a]? = s.heap[a]? := by
  intro a ha hb
  have h0 : s.heap[a]? = some s.heap[a] := Array.getElem?_eq_getElem ha
  obtain ⟨c', h1, h2, h3, h4⟩ := X.same.2.2.2.2.2 a _ h0
  have h1 : T.heap[a]? = some c' := h1
  have hs : c'.slots = s.heap[a].slots := by
    refine Array.ext_getElem? fun i => h4 i fun hm => hb (hL _ hm).2
  rw [h1, h0, h2, hs]
