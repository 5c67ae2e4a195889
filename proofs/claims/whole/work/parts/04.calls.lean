/-! Calls and ends of the ghost machine: a callee is walked over the caller's frame ('Stand.into'), and comes back by a value or by a throw. -/
theorem gz_weak {tb : Tables} {e : Env} {mid below : List Frame} {a b : State} (h : Steps tb e (mid ++ below) a b) : Steps tb e below a b := by
  obtain ⟨n, h1, h2⟩ := h
  exact ⟨n, h1, fun k hk => (h2 k hk).weaken⟩
theorem gz_mono {p : Program} {l : Launch} {e : Env} {R : Room} {s : State} {m : MethodId} {args : Array Value} {below : List Frame} {meth : Method} {c : Code} {H : Heap} {locs : List Loc} {cells slots : Nat} {Q Q' : State → Prop} {g : JFrame} (h : ∀ t, Q t → Q' t) (w : W p l e R s m args below meth c H locs cells slots Q g) : W p l e R s m args below meth c H locs cells slots Q' g := by
  intro T hT X
  obtain ⟨t, a, b⟩ := w T hT X
  exact ⟨t, a, h t b⟩
/-- the locals with which a method begins -/
def gz_sl (vs : List Value) : List (Option Value) := vs.flatMap fun v => if v.category = 2 then [some v, none] else [some v]
def gz_ent (vs : List Value) (nL : Nat) : List (Option Value) := gz_sl vs ++ List.replicate (nL - (gz_sl vs).length) none
theorem gz_sl_ok {q : List Nat} : ∀ {vs ws : List Value}, gz_s q vs ws → (gz_sl vs).length = (lg_sl ws).length ∧ ∀ (i : Nat) (v : Value), (gz_sl vs)[i]? = some (some v) → ∃ w, (lg_sl ws)[i]? = some (.val w) ∧ gz_v q v w
  | [], ws, h => by
    rw [show ws = [] from h]
    exact ⟨rfl, fun i v hv => by simp [gz_sl] at hv⟩
  | v :: vs, _, ⟨w, ws', e, hv, hs⟩ => by
    subst e
    obtain ⟨h1, h2⟩ := gz_sl_ok hs
    by_cases hc : v.category = 2
    · have hc' : w.category = 2 := hv.cat.trans hc
      have e1 : gz_sl (v :: vs) = some v :: none :: gz_sl vs := by simp [gz_sl, hc]
      have e2 : lg_sl (w :: ws') = .val w :: .second :: lg_sl ws' := by simp [lg_sl, hc']
      rw [e1, e2]
      refine ⟨by simp [h1], fun i v' hi => ?_⟩
      match i, hi with
      | 0, hi => simp at hi; subst hi; exact ⟨w, rfl, hv⟩
      | 1, hi => simp at hi
      | i + 2, hi => exact h2 i v' hi
    · have hc' : ¬ w.category = 2 := fun z => hc (hv.cat.symm.trans z)
      have e1 : gz_sl (v :: vs) = some v :: gz_sl vs := by simp [gz_sl, hc]
      have e2 : lg_sl (w :: ws') = .val w :: lg_sl ws' := by simp [lg_sl, hc']
      rw [e1, e2]
      refine ⟨by simp [h1], fun i v' hi => ?_⟩
      match i, hi with
      | 0, hi => simp at hi; subst hi; exact ⟨w, rfl, hv⟩
      | i + 1, hi => exact h2 i v' hi
theorem gz_ent_len {vs : List Value} {nL : Nat} (h : (gz_sl vs).length ≤ nL) : (gz_ent vs nL).length = nL := by
  simp [gz_ent]
  omega
theorem gz_entry {q : List Nat} {vs ws : List Value} {nL : Nat} (h : gz_s q vs ws) (hn : (gz_sl vs).length ≤ nL) : gz_l q (gz_ent vs nL) ((lg_sl ws ++ List.replicate (nL - (lg_sl ws).length) Slot.unset).toArray) := by
  obtain ⟨h1, h2⟩ := gz_sl_ok h
  obtain ⟨e1, e2, e3⟩ := lv_entry ws (n := nL) (by omega)
  refine ⟨by rw [gz_ent_len hn]; exact e1, e2, fun i v hi => ?_⟩
  unfold gz_ent at hi
  by_cases hl : i < (gz_sl vs).length
  · rw [List.getElem?_append_left hl] at hi
    obtain ⟨w, a, b⟩ := h2 i v hi
    refine ⟨w, ?_, b⟩
    rw [List.getElem?_toArray, List.getElem?_append_left (by omega)]
    exact a
  · rw [List.getElem?_append_right (by omega), List.getElem?_replicate] at hi
    split at hi
    · cases hi
    · cases hi
/-- the word of a method's code -/
def gz_code (P : gzP) (F : gzF) (nL : Nat) : Prop := (F.2.2.2.2 = [] ∧ Cond.code F.1 F.2.1 nL F.2.2.2.1 ∈ P.1) ∨ Cond.codeWith F.1 F.2.1 nL F.2.2.2.1 F.2.2.2.2 ∈ P.1
theorem gz_code.at {P : gzP} {F : gzF} {nL : Nat} {args : Array Value} {s : State} {m : MethodId} (h : gz_code P F nL) (hts : ∀ w ∈ P.1, w.before args s = true) (hn : s.methodNamed? F.1 = some m) :
    ∃ meth c, s.vm.method? m = some meth ∧ meth.code = some c ∧ c.code = F.2.1 ∧ c.maxLocals = nL ∧ meth.sig.returnType = F.2.2.2.1 ∧ meth.locks = false ∧ c.exceptionTable.toList.map (fun h => (h.startPc, h.endPc, h.handlerPc, h.catchType)) = F.2.2.2.2 ∧ parseMethodDescriptor F.1.desc = some meth.sig := by
  rcases h with ⟨h0, h⟩ | h
  · obtain ⟨meth, c, h1, h2, h3, h4, h5, h6, h7, h8⟩ := Cond.code_spec hn (hts _ h)
    refine ⟨meth, c, h1, h2, h3, h4, h5, h6, ?_, h8⟩
    rw [h0]
    have : c.exceptionTable = #[] := by simpa using h7
    rw [this]
    rfl
  · obtain ⟨m9, meth, c, hn9, h1, h2, h3, h4, h5, h6, h7, h8⟩ := Cond.codeWith_spec (hts _ h)
    cases hn.symm.trans hn9
    exact ⟨meth, c, h1, h2, h3, h4, h6, h7, h5, h8⟩
/-- a throw on its way over the method's frame -/
def GT (l : Launch) (P : gzP) (D : gzD) (F : gzF) (K : gzK) (pc : Nat) (gl : List (Option Value)) (x : Nat) (M : gzM) (n nc ns : Nat) : Prop :=
  ∀ (p : Program) (e : Env) (R : Room) (s : State) (m : MethodId) (args : Array Value) (below : List Frame) (meth : Method) (c : Code) (H : Heap) (locs : List Loc) (cells slots : Nat) (q0 q : List Nat) (ls : Array Slot) (st : List Value) (a : Nat),
    gz_C P D F gl.length p R s m args meth c → q0 <+: q → gz_l q gl ls → q[x]? = some a → gz_H P D q M n H → gz_R D R cells slots nc ns → gz_L D q locs →
    ∀ T : State, T.heap = H → Stand p l e R s m args below meth c T locs cells slots → ∃ t, Steps p.tables e below ((T.setTop (F0 m pc ls st)).pushFrame (.throwing a)) t ∧ gz_Q P D R s below q0 K t
/-- how the caller goes on -/
def gz_back (l : Launch) (P : gzP) (D : gzD) (F : gzF) (K : gzK) (pc len : Nat) (gl : List (Option Value)) (gst : List Value) : gzK := fun g M n nc ns => match g with
  | .inl none => GZ l P D F K (pc + len) gl gst M n nc ns
  | .inl (some v) => GZ l P D F K (pc + len) gl (v :: gst) M n nc ns
  | .inr x => GT l P D F K pc gl x M n nc ns
section GZC
variable {l : Launch} {P : gzP} {D : gzD} {F Fy : gzF} {K K' : gzK} {pc : Nat} {gl : List (Option Value)} {gst vs : List Value} {M : gzM} {n nc ns nL maxL : Nat} {q : List Nat}
variable {p : Program} {e : Env} {R : Room} {s : State} {m : MethodId} {args : Array Value} {below : List Frame} {meth : Method} {c : Code} {T : State} {locs : List Loc} {cells slots : Nat}
theorem gz_enter (X : Stand p l e R s m args below meth c T locs cells slots) (hC : gz_C P D F nL p R s m args meth c) (hw : gz_code P Fy maxL) (hpl : plainFor Fy.1 = true) (hk : GZ l P D Fy K' 0 (gz_ent vs maxL) [] M n nc ns) (hd : Fy.2.2.1.1 + 1 ≤ F.2.2.1.1) (hmx : (gz_sl vs).length ≤ maxL)
    {g : JFrame} (hg : g.method = m) (hsize : g.locals.size = c.maxLocals) (hmon : g.monitorRoom = 0) {ig : Instr} {len : Nat} (hdg : decode c.code g.pc = .ok (ig, len)) (hW : (g.stack.map fun v => v.category).sum + (maxL + 11) + Fy.2.2.1.2 ≤ F.2.2.1.2)
    {mk : MethodId} (hn : s.methodNamed? Fy.1 = some mk) {a : Array Value} (ha : gz_s q vs a.toList) (hH : gz_H P D q M n T.heap) (hR : gz_R D R cells slots nc ns) (hL : gz_L D q locs) :
    ∃ (go : gzO) (M' : gzM) (n' nc' ns' : Nat) (q' : List Nat) (T' : State) (locs' : List Loc) (cells' slots' : Nat) (t : State), K' go M' n' nc' ns' ∧ q <+: q' ∧ Stand p l e R s m args below meth c T' locs' cells' slots' ∧ gz_H P D q' M' n' T'.heap ∧ gz_R D R cells' slots' nc' ns' ∧ gz_L D q' locs' ∧ (∀ acts, Steps p.tables e below (doInvoke e (T.setTop g) acts mk a).1 t) ∧
      (match go with
        | .inl v => ∃ w : List Value, gz_s q' v.toList w ∧ t = T'.setTop { g with pc := g.pc + len, stack := w ++ g.stack }
        | .inr k => ∃ x, q'[k]? = some x ∧ t = (T'.setTop g).pushFrame (.throwing x)) := by
  obtain ⟨hx, hb, hml, hown, hnm, hret, hlk, hts, hgd, hT, hfr, hlo, hex⟩ := hC
  obtain ⟨methY, cY, hmY, hcY, hbY, hlY, hrY, hkY, heY, -⟩ := hw.at hts hn
  have hmT : T.vm.method? mk = some methY := by rw [X.warmed.alike.method?]; exact hmY
  have hnT := X.named hn
  have hpT : T.plainMethod mk := State.plainMethod.of_named hpl hnT hmT
  obtain ⟨r1, r2, r3, r4⟩ := hR
  obtain ⟨Y, hin⟩ := X.into (R' := { frames := Fy.2.2.1.1, cells := R.cells - cells, slots := R.slots - slots, locals := Fy.2.2.1.2 }) hg hsize hdg a hmT hcY hkY hpT (by show Fy.2.2.1.1 + 1 ≤ R.frames; omega) (by rw [hmon, hlY]; show 2 * 0 + _ + (maxL + 11) + Fy.2.2.1.2 ≤ R.locals; omega) (by show cells + (R.cells - cells) ≤ R.cells; omega) (by show slots + (R.slots - slots) ≤ R.slots; omega)
  have hent := lg_entry_eq mk a.toList cY.maxLocals
  rw [show a.toList.toArray = a by simp, hlY] at hent
  have hl := gz_entry ha hmx
  have hC' : gz_C P D Fy (gz_ent vs maxL).length p { frames := Fy.2.2.1.1, cells := R.cells - cells, slots := R.slots - slots, locals := Fy.2.2.1.2 } (T.calling g mk a) mk a methY cY :=
    ⟨hx, hbY, by rw [gz_ent_len hmx]; exact hlY, findClass_of_methodNamed hnT, (name_of_methodNamed hn hmY).1, hrY, hkY, fun w h => gz_word (s := s) (U := T.calling g mk a) X.warmed (hgd w h) (hts w h), hgd, gz_T.moved (u := s) (U := T.calling g mk a) X.warmed (show ∀ b : Nat, b < s.heap.size → ¬ D.2.2.1 ≤ b → T.heap[b]? = s.heap[b]? from gz_old X hL) hT, Nat.le_refl _, Nat.le_refl _, heY⟩
  obtain ⟨t, hst, o, hrun, hend, hE⟩ := hk p e { frames := Fy.2.2.1.1, cells := R.cells - cells, slots := R.slots - slots, locals := Fy.2.2.1.2 } (T.calling g mk a) mk a (.java g :: below) methY cY T.heap [] 0 0 q q _ [] hC' (List.prefix_refl _) hl rfl hH ⟨Nat.zero_le _, Nat.zero_le _, by show D.2.2.2.1 + 0 ≤ (R.cells - cells) + nc; omega, by show D.2.2.2.2.1 + 0 ≤ (R.slots - slots) + ns; omega⟩ (fun x hx => by cases hx) ((T.setTop g).pushFrame (.java (entryFrame mk a cY.maxLocals))) rfl Y
  obtain ⟨go, M', n', nc', ns', q', L, k, sl, hK, hpre, ho, hH', hW₂, hsame, hL', hR'⟩ := hE
  have hst' : ∀ acts, Steps p.tables e below (doInvoke e (T.setTop g) acts mk a).1 t := fun acts => by
    rw [hin acts, hlY, hent]
    exact gz_weak (mid := [.java g]) (by rw [hlY, hent] at hst; exact hst)
  obtain ⟨w1, w2, w3, w4⟩ : k ≤ R.cells - cells ∧ sl ≤ R.slots - slots ∧ D.2.2.2.1 + k ≤ (R.cells - cells) + nc' ∧ D.2.2.2.2.1 + sl ≤ (R.slots - slots) + ns' := hR'
  have hR2 : gz_R D R (cells + k) (slots + sl) nc' ns' := ⟨by omega, by omega, by omega, by omega⟩
  have hL2 : gz_L D q' (locs ++ L) := fun x hx => by
    rcases List.mem_append.mp hx with h | h
    · exact ⟨hpre.subset (hL x h).1, (hL x h).2⟩
    · exact hL' x h
  cases go with
  | inl v =>
    obtain ⟨w, how, hw'⟩ : ∃ w : Option Value, o = .returned w ∧ gz_s q' v.toList w.toList := by
      cases v with
      | none => exact ⟨none, ho, rfl⟩
      | some v =>
        obtain ⟨w, h1, h2⟩ := ho
        exact ⟨some w, h1, w, [], rfl, h2, rfl⟩
    subst how
    obtain ⟨T', X', -, -, ht⟩ := X.outOf hg hdg hend hW₂ hsame
    exact ⟨.inl v, M', n', nc', ns', q', T', _, _, _, t, hK, hpre, X', by rw [ht] at hH'; exact hH', hR2, hL2, hst', w.toList, hw', ht⟩
  | inr k' =>
    obtain ⟨x, hx1, rfl⟩ := ho
    obtain ⟨T', X', -, -, ht⟩ := X.outOfThrown hg hend hW₂ hsame
    exact ⟨.inr k', M', n', nc', ns', q', T', _, _, _, t, hK, hpre, X', by rw [ht] at hH'; exact hH', hR2, hL2, hst', x, hx1, ht⟩
theorem gz_go (X : Stand p l e R s m args below meth c T locs cells slots) (hC : gz_C P D F gl.length p R s m args meth c) (hw : gz_code P Fy maxL) (hpl : plainFor Fy.1 = true) {len : Nat} (hk : GZ l P D Fy (gz_back l P D F K pc len gl gst) 0 (gz_ent vs maxL) [] M n nc ns) (hd : Fy.2.2.1.1 + 1 ≤ F.2.2.1.1) (hmx : (gz_sl vs).length ≤ maxL)
    {q0 : List Nat} {ls : Array Slot} {w2 : List Value} (h0 : q0 <+: q) (hl : gz_l q gl ls) (hs2 : gz_s q gst w2) {ig : Instr} (hdg : decode F.2.1 pc = .ok (ig, len)) (hW : (gst.map fun v => v.category).sum + (maxL + 11) + Fy.2.2.1.2 ≤ F.2.2.1.2)
    {mk : MethodId} (hn : s.methodNamed? Fy.1 = some mk) {a : Array Value} (ha : gz_s q vs a.toList) (hH : gz_H P D q M n T.heap) (hR : gz_R D R cells slots nc ns) (hL : gz_L D q locs) :
    ∃ t, (∀ acts, Steps p.tables e below (doInvoke e (T.setTop (F0 m pc ls w2)) acts mk a).1 t) ∧ gz_Q P D R s below q0 K t := by
  obtain ⟨go, M', n', nc', ns', q', T', locs', cells', slots', t, hK, hpre, X', hH', hR', hL', hsteps, hgo⟩ := gz_enter (g := F0 m pc ls w2) X hC hw hpl hk hd hmx rfl (hl.1.trans hC.2.2.1.symm) rfl (by rw [hC.2.1]; exact hdg) (by rw [hs2.cats]; exact hW) hn ha hH hR hL
  cases go with
  | inl v =>
    obtain ⟨w, hw', ht⟩ := hgo
    have hK : GZ l P D F K (pc + len) gl (v.toList ++ gst) M' n' nc' ns' := by
      cases v with
      | none => exact hK
      | some v => exact hK
    obtain ⟨t2, a2, b2⟩ := hK p e R s m args below meth c T'.heap locs' cells' slots' q0 q' ls (w ++ w2) hC (h0.trans hpre) (hl.mono hpre) (hw'.app (hs2.mono hpre)) hH' hR' hL' T' rfl X'
    exact ⟨t2, fun acts => (hsteps acts).trans (by rw [ht]; exact a2), b2⟩
  | inr x =>
    obtain ⟨xa, hx, ht⟩ := hgo
    have hK : GT l P D F K pc gl x M' n' nc' ns' := hK
    obtain ⟨t2, a2, b2⟩ := hK p e R s m args below meth c T'.heap locs' cells' slots' q0 q' ls w2 xa hC (h0.trans hpre) (hl.mono hpre) hx hH' hR' hL' T' rfl X'
    exact ⟨t2, fun acts => (hsteps acts).trans (by rw [ht]; exact a2), b2⟩
end GZC
/-- the words of a link to a method -/
def gz_ml (P : gzP) (own : String) (idx : Nat) (y : MethodName) : Prop := Cond.methodLink own idx y ∈ P.1 ∨ ∃ host, Cond.methodLinkNest own idx y host ∈ P.1
/-- all that a call's site asks of the tables: of a static method; of a method of an object of class C; of a constructor -/
def gz_cS (P : gzP) (F Fy : gzF) (idx maxL np : Nat) : Prop := gz_ml P F.1.cls idx Fy.1 ∧ Cond.static Fy.1 ∈ P.1 ∧ Cond.initialized Fy.1.cls ∈ P.1 ∧ gz_code P Fy maxL ∧ plainFor Fy.1 = true ∧ (Fy.1.cls ≠ "java/lang/invoke/MethodHandle" ∧ Fy.1.cls ≠ "java/lang/invoke/VarHandle") ∧ (parseMethodDescriptor Fy.1.desc).map (fun d => d.parameters.length) = some np ∧ Fy.2.2.1.1 + 1 ≤ F.2.2.1.1
def gz_cV (P : gzP) (F Fy : gzF) (idx maxL np : Nat) (C : String) : Prop := gz_ml P F.1.cls idx Fy.1 ∧ Cond.instanceMethod Fy.1 ∈ P.1 ∧ Cond.selects C Fy.1 Fy.1 ∈ P.1 ∧ gz_code P Fy maxL ∧ plainFor Fy.1 = true ∧ (Fy.1.cls ≠ "java/lang/invoke/MethodHandle" ∧ Fy.1.cls ≠ "java/lang/invoke/VarHandle") ∧ (parseMethodDescriptor Fy.1.desc).map (fun d => d.parameters.length) = some np ∧ Fy.2.2.1.1 + 1 ≤ F.2.2.1.1
def gz_cI (P : gzP) (F Fy : gzF) (idx maxL np : Nat) : Prop := gz_ml P F.1.cls idx Fy.1 ∧ Cond.instanceMethod Fy.1 ∈ P.1 ∧ Cond.code Fy.1 Fy.2.1 maxL none ∈ P.1 ∧ Fy.2.2.2 = (none, []) ∧ Fy.1.name = "<init>" ∧ plainFor Fy.1 = true ∧ (Fy.1.cls ≠ "java/lang/invoke/MethodHandle" ∧ Fy.1.cls ≠ "java/lang/invoke/VarHandle") ∧ (parseMethodDescriptor Fy.1.desc).map (fun d => d.parameters.length) = some np ∧ Fy.2.2.1.1 + 1 ≤ F.2.2.1.1
theorem gz_code.named {P : gzP} {F : gzF} {nL : Nat} {args : Array Value} {s : State} (h : gz_code P F nL) (hts : ∀ w ∈ P.1, w.before args s = true) : ∃ m, s.methodNamed? F.1 = some m := by
  rcases h with ⟨h0, h⟩ | h
  · exact Cond.code_named (hts _ h)
  · obtain ⟨m9, meth, c, hn9, -⟩ := Cond.codeWith_spec (hts _ h)
    exact ⟨m9, hn9⟩
theorem gz_np {y : MethodName} {sig : MethodDescriptor} {np : Nat} (h1 : (parseMethodDescriptor y.desc).map (fun d => d.parameters.length) = some np) (h2 : parseMethodDescriptor y.desc = some sig) : np = sig.parameters.length := by
  rw [h2] at h1
  exact (Option.some.inj h1).symm
section GZI
variable {l : Launch} {P : gzP} {D : gzD} {F Fy : gzF} {K : gzK} {pc : Nat} {gl : List (Option Value)} {gst vs st0 : List Value} {M : gzM} {n nc ns maxL : Nat}
theorem gz_static {idx np : Nat} (hd : decode F.2.1 pc = .ok (.invokestatic idx, 3)) (cs : gz_cS P F Fy idx maxL np) (hvs : vs.length = np) (hst : st0 = vs.reverse ++ gst) (hmx : (gz_sl vs).length ≤ maxL) (hW : (gst.map fun v => v.category).sum + (maxL + 11) + Fy.2.2.1.2 ≤ F.2.2.1.2)
    (k : GZ l P D Fy (gz_back l P D F K pc 3 gl gst) 0 (gz_ent vs maxL) [] M n nc ns) : GZ l P D F K pc gl st0 M n nc ns := by
  subst hst
  intro p e R s m args below meth c H locs cells slots q0 q ls st hC h0 hl hs hH hR hL T hT X
  obtain ⟨w1, w2, rfl, hs1, hs2⟩ := hs.split
  obtain ⟨hlk, hstt, hini, hcode, hpl, hy, hnp, hdep⟩ := cs
  have hts := hC.2.2.2.2.2.2.2.1
  obtain ⟨mk, hnamed⟩ := hcode.named hts
  obtain ⟨methY, cY, hmY, -, -, -, -, -, -, hsig⟩ := hcode.at hts hnamed
  have hstatic : methY.isStatic = true := Cond.static_spec hnamed hmY (hts _ hstt)
  obtain ⟨kP, hkP, -⟩ := className_of_methodNamed hnamed
  have hinitP : kP.init = .initialized := Cond.initialized_spec (findClass_of_methodNamed hnamed) hkP (hts _ hini)
  have hlen : w1.reverse.length = methY.sig.parameters.length := by
    rw [List.length_reverse, hs1.len, List.length_reverse, hvs]
    exact gz_np hnp hsig
  have hdc : decode c.code pc = .ok (.invokestatic idx, 3) := by rw [hC.2.1]; exact hd
  obtain ⟨vm₁, X₁, hstep₁⟩ : ∃ vm', Stand p l e R s m args below meth c (T.setVm vm') locs cells slots ∧ ∀ target, (∀ acts, Steps p.tables e below (doInvoke e ((T.setVm vm').setTop (F0 m pc ls w2)) acts mk w1.reverse.toArray).1 target) → Steps p.tables e below (T.setTop (F0 m pc ls (w1 ++ w2))) target := by
    rcases hlk with h | ⟨host, h⟩
    · exact X.invokestatic hC.1 hC.2.2.2.1 (hts _ h) hnamed hmY hstatic hkP hinitP hy (g := F0 m pc ls (w1 ++ w2)) rfl (argsL := w1.reverse) (rest := w2) hlen (by simp) hdc
    · exact X.invokestaticNest hC.1 hC.2.2.2.1 (hts _ h) hnamed hmY hstatic hkP hinitP hy (g := F0 m pc ls (w1 ++ w2)) rfl (argsL := w1.reverse) (rest := w2) hlen (by simp) hdc
  obtain ⟨t, h1, h2⟩ := gz_go X₁ hC hcode hpl k hdep hmx h0 hl hs2 hd hW hnamed (a := w1.reverse.toArray) (by simpa using hs1.rev) (by show gz_H P D q M n T.heap; rw [hT]; exact hH) hR hL
  exact ⟨t, hstep₁ t h1, h2⟩
theorem gz_virtual {idx np k0 ci : Nat} {fs : List Value} {r : vw_C} {C : String} (hd : decode F.2.1 pc = .ok (.invokevirtual idx, 3)) (hM : M k0 = some (.inr (ci, fs))) (hci : P.2.1[ci]? = some r) (hC0 : r.1 = C) (cs : gz_cV P F Fy idx maxL np C) (hvs : vs.length = np) (hst : st0 = vs.reverse ++ .ref k0 :: gst) (hmx : (gz_sl (.ref k0 :: vs)).length ≤ maxL) (hW : (gst.map fun v => v.category).sum + (maxL + 11) + Fy.2.2.1.2 ≤ F.2.2.1.2)
    (k : GZ l P D Fy (gz_back l P D F K pc 3 gl gst) 0 (gz_ent (.ref k0 :: vs) maxL) [] M n nc ns) : GZ l P D F K pc gl st0 M n nc ns := by
  subst hst
  intro p e R s m args below meth c H locs cells slots q0 q ls st hC h0 hl hs hH hR hL T hT X
  obtain ⟨w1, w2, rfl, hs1, hs2⟩ := hs.split
  obtain ⟨b, w3, rfl, hb, hs3⟩ := hs2.a
  obtain ⟨hlk, hinst, hsel, hcode, hpl, hy, hnp, hdep⟩ := cs
  have hts := hC.2.2.2.2.2.2.2.1
  obtain ⟨mk, methM, hnamed, hmethM, hstM, habM⟩ := Cond.instanceMethod_spec (hts _ hinst)
  obtain ⟨methY, cY, hmY, -, -, -, -, -, -, hsig⟩ := hcode.at hts hnamed
  cases hmethM.symm.trans hmY
  obtain ⟨b', hb', rr, g, hr1, -, ⟨cellB, o1, o2, o3, -⟩, -, -⟩ := hH.2.2.2 k0 _ hM
  cases hb.symm.trans hb'
  cases hci.symm.trans hr1
  have hcls : s.vm.findClass C = some cellB.cls := by
    rw [← hC0, o2]
    exact (hC.2.2.2.2.2.2.2.2.2.1.1 ci r hci).2.1
  obtain ⟨c2, r2, m2, q1, q2, q3, q4, kP, hkP, hkPi⟩ := Cond.selects_spec (hts _ hsel)
  cases hcls.symm.trans q1
  cases (State.methodFound?_of_named hnamed hy).symm.trans q2
  cases hnamed.symm.trans q3
  have hselP : selectMethod e.platform s.vm cellB.cls mk = .method mk := by rw [Launch.admits_selectMethod X.admits]; exact q4
  have hlen : w1.reverse.length = methM.sig.parameters.length := by
    rw [List.length_reverse, hs1.len, List.length_reverse, hvs]
    exact gz_np hnp hsig
  have hdc : decode c.code pc = .ok (.invokevirtual idx, 3) := by rw [hC.2.1]; exact hd
  have hcell : T.heap[b]? = some cellB := by rw [hT]; exact o1
  have hobj : ∀ z, cellB.vm ≠ .statics z := fun z h => by rw [o3] at h; cases h
  obtain ⟨vm₁, X₁, hstep₁⟩ : ∃ vm', Stand p l e R s m args below meth c (T.setVm vm') locs cells slots ∧ ∀ target, (∀ acts, Steps p.tables e below (doInvoke e ((T.setVm vm').setTop (F0 m pc ls w3)) acts mk (.ref b :: w1.reverse).toArray).1 target) → Steps p.tables e below (T.setTop (F0 m pc ls (w1 ++ .ref b :: w3))) target := by
    rcases hlk with h | ⟨host, h⟩
    · exact X.invokevirtual hC.1 hC.2.2.2.1 (hts _ h) hnamed hmethM hstM hkP hkPi hy (a := b) (cell := cellB) hcell hobj hselP hmethM habM hkP hkPi (g := F0 m pc ls (w1 ++ .ref b :: w3)) rfl (argsL := w1.reverse) (rest := w3) hlen (by simp) hdc
    · exact X.invokevirtualNest hC.1 hC.2.2.2.1 (hts _ h) hnamed hmethM hstM hkP hkPi hy (a := b) (cell := cellB) hcell hobj hselP hmethM habM hkP hkPi (g := F0 m pc ls (w1 ++ .ref b :: w3)) rfl (argsL := w1.reverse) (rest := w3) hlen (by simp) hdc
  have ha : gz_s q (.ref k0 :: vs) (.ref b :: w1.reverse) := ⟨_, _, rfl, ⟨b, hb, rfl⟩, by simpa using hs1.rev⟩
  obtain ⟨t, h1, h2⟩ := gz_go X₁ hC hcode hpl k hdep hmx h0 hl hs3 hd hW hnamed (a := (.ref b :: w1.reverse).toArray) ha (by show gz_H P D q M n T.heap; rw [hT]; exact hH) hR hL
  exact ⟨t, hstep₁ t h1, h2⟩
theorem gz_special {idx np k0 : Nat} (hd : decode F.2.1 pc = .ok (.invokespecial idx, 3)) (cs : gz_cI P F Fy idx maxL np) (hvs : vs.length = np) (hst : st0 = vs.reverse ++ .ref k0 :: gst) (hmx : (gz_sl (.ref k0 :: vs)).length ≤ maxL) (hW : (gst.map fun v => v.category).sum + (maxL + 11) + Fy.2.2.1.2 ≤ F.2.2.1.2)
    (k : GZ l P D Fy (gz_back l P D F K pc 3 gl gst) 0 (gz_ent (.ref k0 :: vs) maxL) [] M n nc ns) : GZ l P D F K pc gl st0 M n nc ns := by
  subst hst
  intro p e R s m args below meth c H locs cells slots q0 q ls st hC h0 hl hs hH hR hL T hT X
  obtain ⟨w1, w2, rfl, hs1, hs2⟩ := hs.split
  obtain ⟨b, w3, rfl, hb, hs3⟩ := hs2.a
  obtain ⟨hlk, hinst, hcode, hF2, hy1, hpl, hy, hnp, hdep⟩ := cs
  have hts := hC.2.2.2.2.2.2.2.1
  have hpm : e.platform.magicAccessors = ({} : Platform).magicAccessors := by rw [X.admits.platform]
  have hcd : gz_code P Fy maxL := Or.inl ⟨by rw [hF2], by rw [hF2]; exact hcode⟩
  have hlen : ∀ sig, parseMethodDescriptor Fy.1.desc = some sig → w1.reverse.length = sig.parameters.length := fun sig h => by
    rw [List.length_reverse, hs1.len, List.length_reverse, hvs]
    exact gz_np hnp h
  have hdc : decode c.code pc = .ok (.invokespecial idx, 3) := by rw [hC.2.1]; exact hd
  obtain ⟨mk, vm₁, hnamed, hW₁, hstep₁⟩ : ∃ mk vm', s.methodNamed? Fy.1 = some mk ∧ s.WarmedH vm' ∧ ∀ target, (∀ acts, Steps p.tables e below (doInvoke e ((T.setVm vm').setTop (F0 m pc ls w3)) acts mk (.ref b :: w1.reverse).toArray).1 target) → Steps p.tables e below (T.setTop (F0 m pc ls (w1 ++ .ref b :: w3))) target := by
    rcases hlk with h | ⟨host, h⟩
    · obtain ⟨mk, methM, cM, kP, vm₁, hnamed, -, -, -, -, -, -, -, hW₁, hstep₁⟩ := Steps.initColdArgs (e := e) X.here hC.1 X.warmed hpm hC.2.2.2.1 hy1 hy (hts _ h) (hts _ hinst) (hts _ hcode) (f := F0 m pc ls (w1 ++ .ref b :: w3)) rfl (a := b) (argsL := w1.reverse) (rest := w3) hlen (by simp) hdc
      exact ⟨mk, vm₁, hnamed, hW₁, hstep₁⟩
    · obtain ⟨mk, methM, cM, kP, vm₁, hnamed, -, -, -, -, -, -, -, hW₁, hstep₁⟩ := Steps.initColdArgsNest (e := e) X.here hC.1 X.warmed hpm hC.2.2.2.1 hy1 hy (hts _ h) (hts _ hinst) (hts _ hcode) (f := F0 m pc ls (w1 ++ .ref b :: w3)) rfl (a := b) (argsL := w1.reverse) (rest := w3) hlen (by simp) hdc
      exact ⟨mk, vm₁, hnamed, hW₁, hstep₁⟩
  have ha : gz_s q (.ref k0 :: vs) (.ref b :: w1.reverse) := ⟨_, _, rfl, ⟨b, hb, rfl⟩, by simpa using hs1.rev⟩
  obtain ⟨t, h1, h2⟩ := gz_go (X.noted hW₁) hC hcd hpl k hdep hmx h0 hl hs3 hd hW hnamed (a := (.ref b :: w1.reverse).toArray) ha (by show gz_H P D q M n T.heap; rw [hT]; exact hH) hR hL
  exact ⟨t, hstep₁ t h1, h2⟩
theorem gz_objInit {idx k0 : Nat} (hd : decode F.2.1 pc = .ok (.invokespecial idx, 3)) (hlk : Cond.methodLink F.1.cls idx Lib.objectInit ∈ P.1) (hin : Cond.instanceMethod Lib.objectInit ∈ P.1) (hcd : Cond.code Lib.objectInit ⟨#[0xb1]⟩ 1 none ∈ P.1) (hdep : 1 ≤ F.2.2.1.1) (hW : (gst.map fun v => v.category).sum + 12 ≤ F.2.2.1.2)
    (k : GZ l P D F K (pc + 3) gl gst M n nc ns) : GZ l P D F K pc gl (.ref k0 :: gst) M n nc ns :=
  GZ.pure (fun p e R s m args below meth c H locs cells slots Q q ls st hC hl hs hH kk => by
    obtain ⟨a, st1, rfl, ha, hs1⟩ := hs.a
    have hts := hC.2.2.2.2.2.2.2.1
    have h1 := hC.2.2.2.2.2.2.2.2.2.2.1
    have h2 := hC.2.2.2.2.2.2.2.2.2.2.2.1
    exact W.objInit hC.1 hC.2.1 hC.2.2.2.1 (hts _ hlk) (hts _ hin) (hts _ hcd) rfl (hl.1.trans hC.2.2.1.symm) rfl hd (by omega) (by show 2 * 0 + _ + 12 ≤ R.locals; rw [hs1.cats]; omega) (kk ls _ hl hs1)) rfl k
/-- the end of a walk -/
theorem gz_done {Qc : Array Value → State → Outcome → State → Prop} {p : Program} {e : Env} {R : Room} {s : State} {m : MethodId} {args : Array Value} {below : List Frame} {meth : Method} {c : Code} {H : Heap} {locs : List Loc} {cells slots : Nat} {q0 q : List Nat} {g : JFrame} {go : gzO} {o : Outcome}
    (hK : K go M n nc ns) (h0 : q0 <+: q) (ho : gz_o q go o) (hH : gz_H P D q M n H) (hR : gz_R D R cells slots nc ns) (hL : gz_L D q locs)
    (w : W p l e R s m args below meth c H locs cells slots (MQ below (fun _ _ o' t => o' = o ∧ t.heap = H) args s cells slots (fun a => a ∈ q ∧ D.2.2.1 ≤ a)) g) : W p l e R s m args below meth c H locs cells slots (gz_Q P D R s below q0 K) g :=
  gz_mono (fun t ⟨o', h1, h2, ⟨h3, h4⟩, L, h5, h6⟩ => ⟨o', h1, h2, go, M, n, nc, ns, q, L, cells, slots, hK, h0, by rw [h3]; exact ho, by rw [h4]; exact hH, h5.2.1, h5.2.2, h6, hR⟩) w
theorem gz_ireturn {x : Int32} {ty : FieldType} (hd : decode F.2.1 pc = .ok (.ireturn, 1)) (hr : F.2.2.2.1 = some ty) (hn : narrow ty (.int x) = .int x) (k : K (.inl (some (.int x))) M n nc ns) : GZ l P D F K pc gl [.int x] M n nc ns := by
  intro p e R s m args below meth c H locs cells slots q0 q ls st hC h0 hl hs hH hR hL
  obtain ⟨st1, rfl, hs1⟩ := hs.i
  rw [show st1 = [] from hs1]
  have hlk := hC.2.2.2.2.2.2.1
  exact gz_done (Qc := fun _ _ _ _ => True) k h0 ⟨_, rfl, rfl⟩ hH hR hL (W.zret (free := fun a => a ∈ q ∧ D.2.2.1 ≤ a) hC.1 hC.2.1 (hC.2.2.2.2.2.1.trans hr) hn (fun t h _ => ⟨rfl, h⟩) (fun x hx => hL x hx) hd hlk)
theorem gz_lreturn {x : Int64} (hd : decode F.2.1 pc = .ok (.lreturn, 1)) (hr : F.2.2.2.1 = some .long) (k : K (.inl (some (.long x))) M n nc ns) : GZ l P D F K pc gl [.long x] M n nc ns := by
  intro p e R s m args below meth c H locs cells slots q0 q ls st hC h0 hl hs hH hR hL
  obtain ⟨st1, rfl, hs1⟩ := hs.j
  rw [show st1 = [] from hs1]
  have hlk := hC.2.2.2.2.2.2.1
  exact gz_done (Qc := fun _ _ _ _ => True) k h0 ⟨_, rfl, rfl⟩ hH hR hL (W.lret (free := fun a => a ∈ q ∧ D.2.2.1 ≤ a) hC.1 hC.2.1 (hC.2.2.2.2.2.1.trans hr) (fun t h _ => ⟨rfl, h⟩) (fun x hx => hL x hx) hd hlk)
theorem gz_areturn {v : Value} {ty : FieldType} (hd : decode F.2.1 pc = .ok (.areturn, 1)) (hr : F.2.2.2.1 = some ty) (hty : (∃ n, ty = .object n) ∨ ∃ t, ty = .array t) (hv : gz_isr v) (k : K (.inl (some v)) M n nc ns) : GZ l P D F K pc gl [v] M n nc ns := by
  intro p e R s m args below meth c H locs cells slots q0 q ls st hC h0 hl hs hH hR hL
  obtain ⟨w, st1, rfl, hw, hs1⟩ := hs
  rw [show st1 = [] from hs1]
  have hlk := hC.2.2.2.2.2.2.1
  have hw2 : w = .null ∨ ∃ a, w = .ref a := by
    rcases hv with rfl | ⟨r, rfl⟩
    · exact Or.inl hw
    · obtain ⟨a, -, h⟩ := hw
      exact Or.inr ⟨a, h⟩
  exact gz_done (Qc := fun _ _ _ _ => True) k h0 ⟨w, rfl, hw⟩ hH hR hL (W.aret (free := fun a => a ∈ q ∧ D.2.2.1 ≤ a) hC.1 hC.2.1 (hC.2.2.2.2.2.1.trans hr) hty hw2 (fun t h _ => ⟨rfl, h⟩) (fun x hx => hL x hx) hd hlk)
theorem gz_return (hd : decode F.2.1 pc = .ok (.return_, 1)) (hr : F.2.2.2.1 = none) (k : K (.inl none) M n nc ns) : GZ l P D F K pc gl [] M n nc ns := by
  intro p e R s m args below meth c H locs cells slots q0 q ls st hC h0 hl hs hH hR hL
  rw [show st = [] from hs]
  have hlk := hC.2.2.2.2.2.2.1
  exact gz_done (Qc := fun _ _ _ _ => True) k h0 rfl hH hR hL (W.vret (free := fun a => a ∈ q ∧ D.2.2.1 ≤ a) hC.1 hC.2.1 (hC.2.2.2.2.2.1.trans hr) (fun t h _ => ⟨rfl, h⟩) (fun x hx => hL x hx) hd hlk)
/-- no handler: the throw leaves the method -/
theorem GT.out {x : Nat} (hh : F.2.2.2.2.all (fun h => !(decide (h.1 ≤ pc) && decide (pc < h.2.1))) = true) (k : K (.inr x) M n nc ns) : GT l P D F K pc gl x M n nc ns := by
  intro p e R s m args below meth c H locs cells slots q0 q ls st a hC h0 hl hx hH hR hL T hT X
  have hlk := hC.2.2.2.2.2.2.1
  have hex := hC.2.2.2.2.2.2.2.2.2.2.2.2
  obtain ⟨w1, w2, w3, w4, w5⟩ := X.leaveThrown a (g := F0 m pc ls st) rfl rfl rfl (fun y hy => by
    have hm : (y.startPc, y.endPc, y.handlerPc, y.catchType) ∈ F.2.2.2.2 := by
      rw [← hex]
      exact List.mem_map.mpr ⟨y, hy, rfl⟩
    have h9 : (!(decide (y.startPc ≤ pc) && decide (pc < y.endPc))) = true := List.all_eq_true.mp hh _ hm
    rw [Bool.not_eq_true'] at h9
    exact h9) hlk
  exact ⟨_, w1, .threw a, w2, w3, .inr x, M, n, nc, ns, q, locs, cells, slots, k, h0, ⟨a, hx, rfl⟩, by show gz_H P D q M n T.heap; rw [hT]; exact hH, w4, w5, hL, hR⟩
end GZI
theorem GZ.mono {l : Launch} {P : gzP} {D : gzD} {F : gzF} {K K' : gzK} {pc : Nat} {gl : List (Option Value)} {gst : List Value} {M : gzM} {n nc ns : Nat} (h : GZ l P D F K pc gl gst M n nc ns) (hK : ∀ g M n nc ns, K g M n nc ns → K' g M n nc ns) : GZ l P D F K' pc gl gst M n nc ns := by
  intro p e R s m args below meth c H locs cells slots q0 q ls st hC h0 hl hs hH hR hL
  exact gz_mono (fun t ⟨o, h1, h2, g, M', n', nc', ns', q', L, k, sl, hk, hr⟩ => ⟨o, h1, h2, g, M', n', nc', ns', q', L, k, sl, hK _ _ _ _ _ hk, hr⟩) (h p e R s m args below meth c H locs cells slots q0 q ls st hC h0 hl hs hH hR hL)
