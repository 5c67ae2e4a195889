/-! Throwing and catching -/
section GZX
variable {l : Launch} {P : gzP} {D : gzD} {F : gzF} {K : gzK} {pc : Nat} {gl : List (Option Value)} {gst : List Value} {M : gzM} {n nc ns : Nat}
/-- all that 'throw new X(text)' asks of the tables -/
def gz_tw (P : gzP) (F : gzF) (cls text : String) (names : List String) (ik is ic ci : Nat) : Prop :=
  Cond.classLink F.1.cls ik cls ∈ P.1 ∧ Cond.initialized cls ∈ P.1 ∧ (F.1.cls, is, text) ∈ P.2.2.2.2.2.2.1 ∧ (∀ w ∈ vx_atS F.1.cls ic cls names, w ∈ P.1) ∧ (∀ w ∈ Cond.classLink F.1.cls ik cls :: Cond.initialized cls :: vx_atS F.1.cls ic cls names, vx_ot w = true) ∧ Bundle.fit cls = true ∧ (∀ n ∈ names, Bundle.fit n = true) ∧
  (Bundle.tN, "UNASSIGNED_STACK", Bundle.steD) ∈ P.2.2.2.2.2.1 ∧ (Bundle.tN, "SUPPRESSED_SENTINEL", Bundle.listD) ∈ P.2.2.2.2.2.1 ∧ ∃ r : vw_C, P.2.1[ci]? = some r ∧ r.1 = cls ∧ r.2.2 = 0
set_option maxHeartbeats 1000000 in
theorem gz_throw {cls text : String} {names : List String} {ik is ic ci : Nat} (hl : l.stackTraces = false) (tw : gz_tw P F cls text names ik is ic ci) (d0 : decode F.2.1 pc = .ok (.new ik, 3)) (d3 : decode F.2.1 (pc + 3) = .ok (.dup, 1)) (d4 : decode F.2.1 (pc + 4) = .ok (.ldc is, 2)) (d6 : decode F.2.1 (pc + 6) = .ok (.invokespecial ic, 3)) (d9 : decode F.2.1 (pc + 9) = .ok (.athrow, 1))
    (hh : F.2.2.2.2.all (fun h => !(decide (h.1 ≤ pc + 9) && decide (pc + 9 < h.2.1))) = true) (hfr : names.length + 3 < F.2.2.1.1) (hlo : (gst.map fun v => v.category).sum + (13 * (names.length + 1) + 43) ≤ F.2.2.1.2) (hnc : nc + 1 ≤ D.2.2.2.1) (hns : ns + 6 ≤ D.2.2.2.2.1)
    (k : K (.inr n) (gz_up M n (.inr (ci, []))) (n + 1) (nc + 1) (ns + 6)) : GZ l P D F K pc gl gst M n nc ns := by
  intro p e R s m args below meth c H locs cells slots q0 q ls rest hC h0 hl0 hs hH hR hL T hT X
  obtain ⟨hk, hini, hst, hat, hgood, hcls, hnames, hu, hsn, r, hr, hrc, hr0⟩ := tw
  have hexec := hC.1
  have hb := hC.2.1
  have hown := hC.2.2.2.1
  have hlocks := hC.2.2.2.2.2.2.1
  have hts := hC.2.2.2.2.2.2.2.1
  have hT0 := hC.2.2.2.2.2.2.2.2.2.1
  have hf1 := hC.2.2.2.2.2.2.2.2.2.2.1
  have hf2 := hC.2.2.2.2.2.2.2.2.2.2.2.1
  have hex := hC.2.2.2.2.2.2.2.2.2.2.2.2
  have hU := hT0.2.2.2.2.1 _ hu
  have hN := hT0.2.2.2.2.1 _ hsn
  obtain ⟨sa, hstr⟩ := hT0.2.2.2.2.2.1 _ hst
  have hS := gz_vaS X hL
  obtain ⟨r1, r2, r3, r4⟩ := hR
  have htr : e.platform.stackTraces = false := (show e.platform.stackTraces = l.stackTraces by rw [X.admits.platform]).trans hl
  have Y := vx_rebase X (R' := { frames := R.frames, locals := R.locals, cells := 1, slots := 6 }) (Nat.le_refl _) (Nat.le_refl _) (by show cells + 1 ≤ R.cells; omega) (by show slots + 6 ≤ R.slots; omega)
  obtain ⟨s', hA⟩ : ∃ z, z = (T.setVm s.vm).setFrames (.invoking m args :: below) := ⟨_, rfl⟩
  rw [← hA] at Y
  have hvm : s'.vm = s.vm := by rw [hA]; rfl
  have hhp : s'.heap = T.heap := by rw [hA]; rfl
  have hW0 : s.WarmedH s'.vm := by rw [hvm]; exact State.WarmedH.refl s
  have hat' : ∀ w ∈ vx_atS F.1.cls ic cls names, w.before args s' = true := fun w hw => vx_ot_at hW0 hvm.symm (hgood w (List.mem_cons_of_mem _ (List.mem_cons_of_mem _ hw))) (hts w (hat w hw))
  have hk' : (Cond.classLink F.1.cls ik cls).before args s' = true := vx_ot_at hW0 hvm.symm (hgood _ List.mem_cons_self) (hts _ hk)
  have hini' : (Cond.initialized cls).before args s' = true := vx_ot_at hW0 hvm.symm (hgood _ (List.mem_cons_of_mem _ List.mem_cons_self)) (hts _ hini)
  have hU' : vx_Zq Bundle.tN "UNASSIGNED_STACK" Bundle.steD (fun b => D.2.2.1 ≤ b) s' s'.heap := by rw [hhp]; exact vx_Zq.moved hW0.alike (hU.kept hS.2.1)
  have hN' : vx_Zq Bundle.tN "SUPPRESSED_SENTINEL" Bundle.listD (fun b => D.2.2.1 ≤ b) s' s'.heap := by rw [hhp]; exact vx_Zq.moved hW0.alike (hN.kept hS.2.1)
  have h : ∀ w ∈ Bundle.ownAtoms F.1.cls ic cls names, w.before args s' = true := vx_own hat' (vx_isRefq hU'.1) (vx_isRefq hN'.1) hU'.2.word hN'.2.word
  have hown' : s'.vm.findClass F.1.cls = some m.cls := by rw [hvm]; exact hown
  have hins : (Cond.instantiable cls 6).before args s' = true := h _ (by simp [Bundle.ownAtoms])
  obtain ⟨vm₁, cX, kX, hfX, hkX, -, -, X₁, st1⟩ := Y.newCold hexec (own := F.1.cls) (C := cls) (index := ik) (n := 6) hown' hk' hins hini'
    (g := F0 m pc ls rest) rfl (by rw [hb]; exact d0) (Nat.le_refl _) (Nat.le_refl _)
  generalize hT1 : (T.setVm vm₁).pushCell { cls := cX, slots := kX.instanceTypes.map defaultValue, vm := .none } = T1 at X₁ st1
  have hcat : (Value.ref T.heap.size).category = 1 := rfl
  have hcellA : T1.heap[T.heap.size]? = some (freshCell cX kX) := by rw [← hT1]; exact State.heap_pushCell_size _ _
  have d3' : decode c.code (pc + 3) = .ok (.dup, 1) := by rw [hb]; exact d3
  have d4' : decode c.code (pc + 4) = .ok (.ldc is, 2) := by rw [hb]; exact d4
  have hstr' : vk_R F.1.cls is text sa s' := vk_R.warm hW0 hstr
  have hcat2 := hs.cats
  obtain ⟨U, hsteps, hrun, hend, hW, hsame, ce, hce, hO⟩ := X₁.ctorThrowS hexec htr (own := F.1.cls) (cls := cls) (names := names) (ic := ic) hown' hcls hnames h (fun x hx => nomatch hx) hfX hkX hcellA (by rw [hhp]; exact Nat.le_refl _) (msg := .ref sa) rfl
    (g := { method := m, pc := pc + 6, locals := ls, stack := .ref sa :: .ref T.heap.size :: .ref T.heap.size :: rest, locked := none }) rfl (hl0.1.trans hC.2.2.1.symm) rfl rfl (rest := rest) rfl
    (by rw [hb]; exact d6) (by rw [hb]; exact d9) (fun y hy => by
      have hm : (y.startPc, y.endPc, y.handlerPc, y.catchType) ∈ F.2.2.2.2 := by
        rw [← hex]
        exact List.mem_map.mpr ⟨y, hy, rfl⟩
      have h9 : (!(decide (y.startPc ≤ pc + 9) && decide (pc + 9 < y.endPc))) = true := List.all_eq_true.mp hh _ hm
      rw [Bool.not_eq_true'] at h9
      exact h9) (by show names.length + 3 < R.frames; omega) (by simp only [List.map_cons, List.sum_cons, hcat]; omega) hlocks
  obtain ⟨f1, f2⟩ := vx_frame hsame
  rw [hhp] at f1 f2
  have hWs : s.WarmedH U.vm := State.WarmedH.trans hW0 hW
  have hcl : s.vm.findClass cls = some ce.cls := by
    have h9 := hO.cls
    rw [hvm] at h9
    exact h9
  have hz : U.heap.size = T.heap.size + 1 := by
    have h8 : T.heap.size < U.heap.size := (Array.getElem?_eq_some_iff.mp hce).1
    have h9 : U.heap.size ≤ s'.heap.size + (0 + 1) := hsame.2.2.1
    rw [hhp] at h9
    omega
  have hall : s.sameButNew ({ U with vm := s.vm } : State) locs (cells + 1) (slots + 6) := by
    subst hA
    obtain ⟨e1, e2⟩ := hsame
    rw [State.setFrames_setFrames] at e1
    have h2 : (T.setVm s.vm).sameButNew ({ U with vm := s.vm } : State) [] (0 + 1) (0 + 6) := ⟨e1, e2⟩
    have h3 := X.same.trans h2
    rw [List.append_nil] at h3
    exact h3.mono (by omega) (by omega)
  have hHT : gz_H P D q M n T.heap := by rw [hT]; exact hH
  have hcd : ce.cls = D.2.1.1 ci := by
    have h9 := (hT0.1 ci r hr).2.1
    rw [hrc] at h9
    exact Option.some.inj (hcl.symm.trans h9)
  have hHU : gz_H P D (q ++ [T.heap.size]) (gz_up M n (.inr (ci, []))) (n + 1) U.heap := hHT.push hz (fun b hb => f2 b hb (fun z hz => nomatch hz)) ⟨r, fun _ => .null, hr, by rw [hr0]; rfl, ⟨ce, hce, hcd, hO.vm, fun j hj => by rw [hr0] at hj; exact absurd hj (Nat.not_lt_zero _)⟩, fun j v hv => by simp at hv, hHT.2.2.1.2.1⟩
  have hqn : (q ++ [T.heap.size])[n]? = some T.heap.size := by
    rw [List.getElem?_append_right (by rw [hH.1]; exact Nat.le_refl _), hH.1, Nat.sub_self]
    rfl
  refine ⟨U, ?_, .threw T.heap.size, hrun, hend, .inr n, _, n + 1, nc + 1, ns + 6, q ++ [T.heap.size], locs, cells + 1, slots + 6, k, h0.trans (List.prefix_append _ _), ⟨_, hqn, rfl⟩, hHU, hWs, hall, fun x hx => ⟨List.mem_append_left _ (hL x hx).1, (hL x hx).2⟩, by omega, by omega, by omega, by omega⟩
  refine st1 _ ?_
  show Steps p.tables e below (T1.setTop { method := m, pc := pc + 3, locals := ls, stack := .ref T.heap.size :: rest, locked := none }) _
  jvm_step X₁.here [X₁.here.top, hexec, d3', Value.category]
  exact X₁.ldcString hexec (own := F.1.cls) (text := text) (index := is) (a := sa) hown' hstr'.1 hstr'.2
    (g := { method := m, pc := pc + 4, locals := ls, stack := .ref T.heap.size :: .ref T.heap.size :: rest, locked := none }) rfl d4' _ hsteps
set_option maxHeartbeats 1000000 in
theorem gz_throwW {cls text : String} {names : List String} {ik is ic ci : Nat} (hl : l.stackTraces = false) (tw : gz_tw P F cls text names ik is ic ci) (d0 : decode F.2.1 pc = .ok (.new ik, 3)) (d3 : decode F.2.1 (pc + 3) = .ok (.dup, 1)) (d4 : decode F.2.1 (pc + 4) = .ok (.ldc_w is, 3)) (d6 : decode F.2.1 (pc + 7) = .ok (.invokespecial ic, 3)) (d9 : decode F.2.1 (pc + 10) = .ok (.athrow, 1))
    (hh : F.2.2.2.2.all (fun h => !(decide (h.1 ≤ pc + 10) && decide (pc + 10 < h.2.1))) = true) (hfr : names.length + 3 < F.2.2.1.1) (hlo : (gst.map fun v => v.category).sum + (13 * (names.length + 1) + 43) ≤ F.2.2.1.2) (hnc : nc + 1 ≤ D.2.2.2.1) (hns : ns + 6 ≤ D.2.2.2.2.1)
    (k : K (.inr n) (gz_up M n (.inr (ci, []))) (n + 1) (nc + 1) (ns + 6)) : GZ l P D F K pc gl gst M n nc ns := by
  intro p e R s m args below meth c H locs cells slots q0 q ls rest hC h0 hl0 hs hH hR hL T hT X
  obtain ⟨hk, hini, hst, hat, hgood, hcls, hnames, hu, hsn, r, hr, hrc, hr0⟩ := tw
  have hexec := hC.1
  have hb := hC.2.1
  have hown := hC.2.2.2.1
  have hlocks := hC.2.2.2.2.2.2.1
  have hts := hC.2.2.2.2.2.2.2.1
  have hT0 := hC.2.2.2.2.2.2.2.2.2.1
  have hf1 := hC.2.2.2.2.2.2.2.2.2.2.1
  have hf2 := hC.2.2.2.2.2.2.2.2.2.2.2.1
  have hex := hC.2.2.2.2.2.2.2.2.2.2.2.2
  have hU := hT0.2.2.2.2.1 _ hu
  have hN := hT0.2.2.2.2.1 _ hsn
  obtain ⟨sa, hstr⟩ := hT0.2.2.2.2.2.1 _ hst
  have hS := gz_vaS X hL
  obtain ⟨r1, r2, r3, r4⟩ := hR
  have htr : e.platform.stackTraces = false := (show e.platform.stackTraces = l.stackTraces by rw [X.admits.platform]).trans hl
  have Y := vx_rebase X (R' := { frames := R.frames, locals := R.locals, cells := 1, slots := 6 }) (Nat.le_refl _) (Nat.le_refl _) (by show cells + 1 ≤ R.cells; omega) (by show slots + 6 ≤ R.slots; omega)
  obtain ⟨s', hA⟩ : ∃ z, z = (T.setVm s.vm).setFrames (.invoking m args :: below) := ⟨_, rfl⟩
  rw [← hA] at Y
  have hvm : s'.vm = s.vm := by rw [hA]; rfl
  have hhp : s'.heap = T.heap := by rw [hA]; rfl
  have hW0 : s.WarmedH s'.vm := by rw [hvm]; exact State.WarmedH.refl s
  have hat' : ∀ w ∈ vx_atS F.1.cls ic cls names, w.before args s' = true := fun w hw => vx_ot_at hW0 hvm.symm (hgood w (List.mem_cons_of_mem _ (List.mem_cons_of_mem _ hw))) (hts w (hat w hw))
  have hk' : (Cond.classLink F.1.cls ik cls).before args s' = true := vx_ot_at hW0 hvm.symm (hgood _ List.mem_cons_self) (hts _ hk)
  have hini' : (Cond.initialized cls).before args s' = true := vx_ot_at hW0 hvm.symm (hgood _ (List.mem_cons_of_mem _ List.mem_cons_self)) (hts _ hini)
  have hU' : vx_Zq Bundle.tN "UNASSIGNED_STACK" Bundle.steD (fun b => D.2.2.1 ≤ b) s' s'.heap := by rw [hhp]; exact vx_Zq.moved hW0.alike (hU.kept hS.2.1)
  have hN' : vx_Zq Bundle.tN "SUPPRESSED_SENTINEL" Bundle.listD (fun b => D.2.2.1 ≤ b) s' s'.heap := by rw [hhp]; exact vx_Zq.moved hW0.alike (hN.kept hS.2.1)
  have h : ∀ w ∈ Bundle.ownAtoms F.1.cls ic cls names, w.before args s' = true := vx_own hat' (vx_isRefq hU'.1) (vx_isRefq hN'.1) hU'.2.word hN'.2.word
  have hown' : s'.vm.findClass F.1.cls = some m.cls := by rw [hvm]; exact hown
  have hins : (Cond.instantiable cls 6).before args s' = true := h _ (by simp [Bundle.ownAtoms])
  obtain ⟨vm₁, cX, kX, hfX, hkX, -, -, X₁, st1⟩ := Y.newCold hexec (own := F.1.cls) (C := cls) (index := ik) (n := 6) hown' hk' hins hini'
    (g := F0 m pc ls rest) rfl (by rw [hb]; exact d0) (Nat.le_refl _) (Nat.le_refl _)
  generalize hT1 : (T.setVm vm₁).pushCell { cls := cX, slots := kX.instanceTypes.map defaultValue, vm := .none } = T1 at X₁ st1
  have hcat : (Value.ref T.heap.size).category = 1 := rfl
  have hcellA : T1.heap[T.heap.size]? = some (freshCell cX kX) := by rw [← hT1]; exact State.heap_pushCell_size _ _
  have d3' : decode c.code (pc + 3) = .ok (.dup, 1) := by rw [hb]; exact d3
  have d4' : decode c.code (pc + 4) = .ok (.ldc_w is, 3) := by rw [hb]; exact d4
  have hstr' : vk_R F.1.cls is text sa s' := vk_R.warm hW0 hstr
  have hcat2 := hs.cats
  obtain ⟨U, hsteps, hrun, hend, hW, hsame, ce, hce, hO⟩ := X₁.ctorThrowS hexec htr (own := F.1.cls) (cls := cls) (names := names) (ic := ic) hown' hcls hnames h (fun x hx => nomatch hx) hfX hkX hcellA (by rw [hhp]; exact Nat.le_refl _) (msg := .ref sa) rfl
    (g := { method := m, pc := pc + 7, locals := ls, stack := .ref sa :: .ref T.heap.size :: .ref T.heap.size :: rest, locked := none }) rfl (hl0.1.trans hC.2.2.1.symm) rfl rfl (rest := rest) rfl
    (by rw [hb]; exact d6) (by rw [hb]; exact d9) (fun y hy => by
      have hm : (y.startPc, y.endPc, y.handlerPc, y.catchType) ∈ F.2.2.2.2 := by
        rw [← hex]
        exact List.mem_map.mpr ⟨y, hy, rfl⟩
      have h9 : (!(decide (y.startPc ≤ pc + 10) && decide (pc + 10 < y.endPc))) = true := List.all_eq_true.mp hh _ hm
      rw [Bool.not_eq_true'] at h9
      exact h9) (by show names.length + 3 < R.frames; omega) (by simp only [List.map_cons, List.sum_cons, hcat]; omega) hlocks
  obtain ⟨f1, f2⟩ := vx_frame hsame
  rw [hhp] at f1 f2
  have hWs : s.WarmedH U.vm := State.WarmedH.trans hW0 hW
  have hcl : s.vm.findClass cls = some ce.cls := by
    have h9 := hO.cls
    rw [hvm] at h9
    exact h9
  have hz : U.heap.size = T.heap.size + 1 := by
    have h8 : T.heap.size < U.heap.size := (Array.getElem?_eq_some_iff.mp hce).1
    have h9 : U.heap.size ≤ s'.heap.size + (0 + 1) := hsame.2.2.1
    rw [hhp] at h9
    omega
  have hall : s.sameButNew ({ U with vm := s.vm } : State) locs (cells + 1) (slots + 6) := by
    subst hA
    obtain ⟨e1, e2⟩ := hsame
    rw [State.setFrames_setFrames] at e1
    have h2 : (T.setVm s.vm).sameButNew ({ U with vm := s.vm } : State) [] (0 + 1) (0 + 6) := ⟨e1, e2⟩
    have h3 := X.same.trans h2
    rw [List.append_nil] at h3
    exact h3.mono (by omega) (by omega)
  have hHT : gz_H P D q M n T.heap := by rw [hT]; exact hH
  have hcd : ce.cls = D.2.1.1 ci := by
    have h9 := (hT0.1 ci r hr).2.1
    rw [hrc] at h9
    exact Option.some.inj (hcl.symm.trans h9)
  have hHU : gz_H P D (q ++ [T.heap.size]) (gz_up M n (.inr (ci, []))) (n + 1) U.heap := hHT.push hz (fun b hb => f2 b hb (fun z hz => nomatch hz)) ⟨r, fun _ => .null, hr, by rw [hr0]; rfl, ⟨ce, hce, hcd, hO.vm, fun j hj => by rw [hr0] at hj; exact absurd hj (Nat.not_lt_zero _)⟩, fun j v hv => by simp at hv, hHT.2.2.1.2.1⟩
  have hqn : (q ++ [T.heap.size])[n]? = some T.heap.size := by
    rw [List.getElem?_append_right (by rw [hH.1]; exact Nat.le_refl _), hH.1, Nat.sub_self]
    rfl
  refine ⟨U, ?_, .threw T.heap.size, hrun, hend, .inr n, _, n + 1, nc + 1, ns + 6, q ++ [T.heap.size], locs, cells + 1, slots + 6, k, h0.trans (List.prefix_append _ _), ⟨_, hqn, rfl⟩, hHU, hWs, hall, fun x hx => ⟨List.mem_append_left _ (hL x hx).1, (hL x hx).2⟩, by omega, by omega, by omega, by omega⟩
  refine st1 _ ?_
  show Steps p.tables e below (T1.setTop { method := m, pc := pc + 3, locals := ls, stack := .ref T.heap.size :: rest, locked := none }) _
  jvm_step X₁.here [X₁.here.top, hexec, d3', Value.category]
  exact X₁.ldcStringW hexec (own := F.1.cls) (text := text) (index := is) (a := sa) hown' hstr'.1 hstr'.2
    (g := { method := m, pc := pc + 4, locals := ls, stack := .ref T.heap.size :: .ref T.heap.size :: rest, locked := none }) rfl d4' _ hsteps
/-- caught by the row x of the method's handlers; the rows ahead don't take it -/
theorem GT.catch {x ci hp ct : Nat} {pre suf : List (Nat × Nat × Nat × Nat)} {lo hi : Nat} {fs : List Value} {r : vw_C} {name : String} (hsp : F.2.2.2.2 = pre ++ (lo, hi, hp, ct) :: suf) (hM : M x = some (.inr (ci, fs))) (hr : P.2.1[ci]? = some r) (hcov : lo ≤ pc ∧ pc < hi) (hct : ct ≠ 0) (hlk : Cond.classLink F.1.cls ct name ∈ P.1) (hca : Cond.castable r.1 name ∈ P.1)
    (hpass : ∀ z ∈ pre, ¬ (z.1 ≤ pc ∧ pc < z.2.1) ∨ (z.2.2.2 ≠ 0 ∧ ∃ nm : String, Cond.classLink F.1.cls z.2.2.2 nm ∈ P.1 ∧ (r.1, nm) ∈ P.2.2.2.2.2.2.2)) (k : GZ l P D F K hp gl [.ref x] M n nc ns) : GT l P D F K pc gl x M n nc ns := by
  intro p e R s m args below meth c H locs cells slots q0 q ls st a hC h0 hl hx hH hR hL
  have hex := hC.2.2.2.2.2.2.2.2.2.2.2.2
  have hts := hC.2.2.2.2.2.2.2.1
  have hT0 := hC.2.2.2.2.2.2.2.2.2.1
  obtain ⟨a', ha', r', g, hr', -, ⟨cell, o1, o2, o3, -⟩, -, -⟩ := hH.2.2.2 x _ hM
  have haa : a = a' := Option.some.inj (hx.symm.trans ha')
  subst haa
  have hrr : r = r' := Option.some.inj (hr.symm.trans hr')
  subst hrr
  rw [hsp] at hex
  obtain ⟨l1, l2, he, hp1, hp2⟩ := List.map_eq_append_iff.mp hex
  obtain ⟨y, l3, he2, hy, hp3⟩ := List.map_eq_cons_iff.mp hp2
  have hy1 : y.startPc = lo ∧ y.endPc = hi ∧ y.handlerPc = hp ∧ y.catchType = ct := by
    simp only [Prod.mk.injEq] at hy
    exact hy
  have key := vx_catch (p := p) (l := l) (e := e) (R := R) (s := s) (m := m) (args := args) (below := below) (meth := meth) (c := c) (H := H) (locs := locs) (cells := cells) (slots := slots) (Q := gz_Q P D R s below q0 K) (pc := pc) (ls := ls) (rest := st) (own := F.1.cls) (name := name) (E := r.1) (ce := cell) (q := a) hC.2.2.2.1 l1 y l3 (by rw [he, he2])
    (fun z hz => by
      have hm : (z.startPc, z.endPc, z.handlerPc, z.catchType) ∈ pre := by
        rw [← hp1]
        exact List.mem_map.mpr ⟨z, hz, rfl⟩
      rcases hpass _ hm with h | ⟨h1, nm, h2, h3⟩
      · refine Or.inl ?_
        show (decide (z.startPc ≤ pc) && decide (pc < z.endPc)) = false
        by_cases h5 : z.startPc ≤ pc
        · have h6 : ¬ pc < z.endPc := fun h7 => h ⟨h5, h7⟩
          simp [h6]
        · simp [h5]
      · exact Or.inr ⟨h1, nm, hts _ h2, hT0.2.2.2.2.2.2 _ h3⟩)
    (by
      show (decide (y.startPc ≤ pc) && decide (pc < y.endPc)) = true
      rw [hy1.1, hy1.2.1]
      simp [hcov.1, hcov.2]) (by rw [hy1.2.2.2]; exact hct) (by rw [hy1.2.2.2]; exact hts _ hlk) (hts _ hca) o1 o3 (by rw [o2]; exact (hT0.1 ci r hr).2.1)
    (by rw [hy1.2.2.1]; exact k p e R s m args below meth c H locs cells slots q0 q ls [.ref a] hC h0 hl ⟨_, _, rfl, ⟨a, hx, rfl⟩, rfl⟩ hH hR hL)
  exact key
end GZX
