/-! More rows of the ghost machine: static fields, mirrors, casts, copies -/
section GZM
variable {l : Launch} {P : gzP} {D : gzD} {F : gzF} {K : gzK} {pc : Nat} {gl : List (Option Value)} {gst : List Value} {M : gzM} {n nc ns : Nat}
theorem gz_vaS {q : List Nat} {p : Program} {e : Env} {R : Room} {s : State} {m : MethodId} {args : Array Value} {below : List Frame} {meth : Method} {c : Code} {T : State} {locs : List Loc} {cells slots : Nat} (X : Stand p l e R s m args below meth c T locs cells slots) (hL : gz_L D q locs) : va_S (fun b => D.2.2.1 ≤ b) s.heap T.heap locs :=
  ⟨X.same.2.1, fun b h1 h2 => gz_old X hL b h1 h2, fun x hx => (hL x hx).2⟩
theorem gz_getstatic {idx k0 : Nat} {C nm ds ref : String} (hd : decode F.2.1 pc = .ok (.getstatic idx, 3)) (hx : (C, nm, ds, k0) ∈ P.2.2.2.1) (hlk : Cond.fieldLink F.1.cls idx ref nm ds ∈ P.1) (hsm : ref = C) (k : GZ l P D F K (pc + 3) gl (.ref k0 :: gst) M n nc ns) : GZ l P D F K pc gl gst M n nc ns := by
  intro p e R s m args below meth c H locs cells slots q0 q ls st hC h0 hl hs hH hR hL T hT X
  subst hsm
  obtain ⟨a, ha, hZ⟩ := hC.2.2.2.2.2.2.2.2.2.1.2.2.1 _ hx
  have hS := gz_vaS X hL
  rw [hT] at hS
  exact va_gets hC.1 hC.2.1 hZ hS hC.2.2.2.1 (hC.2.2.2.2.2.2.2.1 _ hlk) (fun x h => h) hd (k p e R s m args below meth c H locs cells slots q0 q ls (.ref a :: st) hC h0 hl ⟨_, _, rfl, ⟨a, gz_pre hH.2.2.1.2.2 ha, rfl⟩, hs⟩ hH hR hL) T hT X
theorem gz_ldcM {idx k0 : Nat} {C : String} (hd : decode F.2.1 pc = .ok (.ldc idx, 2)) (hx : (C, k0) ∈ P.2.2.2.2.1) (hlk : Cond.classLink F.1.cls idx C ∈ P.1) (k : GZ l P D F K (pc + 2) gl (.ref k0 :: gst) M n nc ns) : GZ l P D F K pc gl gst M n nc ns :=
  GZ.pure (fun p e R s m args below meth c H locs cells slots Q q ls st hC hl hs hH kk => by
    obtain ⟨a, ha, hM⟩ := hC.2.2.2.2.2.2.2.2.2.1.2.2.2.1 _ hx
    exact va_ldcM hC.1 hC.2.1 hC.2.2.2.1 (hC.2.2.2.2.2.2.2.1 _ hlk) hM hd (kk ls _ hl ⟨_, _, rfl, ⟨a, gz_pre hH.2.2.1.2.2 ha, rfl⟩, hs⟩)) rfl k
/-- getClass() of an array of references -/
theorem gz_getC {idx k0 k1 kd len : Nat} {f : Nat → Value} {C nm : String} (hd : decode F.2.1 pc = .ok (.invokevirtual idx, 3)) (hk : P.2.2.1[kd]? = some (.object C)) (hnm : "[" ++ (FieldType.object C).toString = nm) (hx : (nm, k0) ∈ P.2.2.2.2.1) (hlk : Cond.methodLink F.1.cls idx ⟨"java/lang/Object", "getClass", "()Ljava/lang/Class;"⟩ ∈ P.1) (hdc : Cond.declares ⟨"java/lang/Object", "getClass", "()Ljava/lang/Class;"⟩ ∈ P.1)
    (hsel : Cond.selects nm ⟨"java/lang/Object", "getClass", "()Ljava/lang/Class;"⟩ ⟨"java/lang/Object", "getClass", "()Ljava/lang/Class;"⟩ ∈ P.1) (hin : Cond.instanceMethod ⟨"java/lang/Object", "getClass", "()Ljava/lang/Class;"⟩ ∈ P.1) (hnt : Cond.native ⟨"java/lang/Object", "getClass", "()Ljava/lang/Class;"⟩ ∈ P.1) (hM : M k1 = some (.inl (kd, len, f))) (hdep : 1 ≤ F.2.2.1.1) (hW : (gst.map fun v => v.category).sum + 14 ≤ F.2.2.1.2)
    (k : GZ l P D F K (pc + 3) gl (.ref k0 :: gst) M n nc ns) (hkd : kd ≠ 0 := by decide) : GZ l P D F K pc gl (.ref k1 :: gst) M n nc ns :=
  GZ.pure (fun p e R s m args below meth c H locs cells slots Q q ls st hC hl hs hH kk => by
    obtain ⟨a1, st1, rfl, ha1, hs1⟩ := hs.a
    obtain ⟨a', ha', g, cl, o1, hA, hg, -⟩ := hH.2.2.2 k1 _ hM
    cases ha1.symm.trans ha'
    obtain ⟨a, ha, hMi⟩ := hC.2.2.2.2.2.2.2.2.2.1.2.2.2.1 _ hx
    have hts := hC.2.2.2.2.2.2.2.1
    have h1 := hC.2.2.2.2.2.2.2.2.2.2.1
    have h2 := hC.2.2.2.2.2.2.2.2.2.2.2.1
    exact va_getC hC.1 hC.2.1 (hC.2.2.1.trans hl.1.symm) hC.2.2.2.1 (hts _ hlk) (hts _ hdc) (hts _ hsel) (hts _ hin) (hts _ hnt) hMi ⟨cl, o1, by cases hv : cl.vm <;> first | rfl | exact absurd hv (hA.2.2.1 _), by rw [hA.1]; exact va_nmO ((hC.2.2.2.2.2.2.2.2.2.1.2.1 kd _ hk).2 hkd) hnm⟩ (by omega) (by rw [hs1.cats]; omega) hd (kk ls _ hl ⟨_, _, rfl, ⟨a, gz_pre hH.2.2.1.2.2 ha, rfl⟩, hs1⟩)) rfl k
theorem gz_acmp_ne {k j : Nat} {off : Int} {tgt : Nat} (hd : decode F.2.1 pc = .ok (.if_acmp .ne off, 3)) (ht : (pc : Int) + off = (tgt : Int)) (hkj : k = j) (kt : ¬ k = j → GZ l P D F K tgt gl gst M n nc ns) (kf : k = j → GZ l P D F K (pc + 3) gl gst M n nc ns) : GZ l P D F K pc gl (.ref j :: .ref k :: gst) M n nc ns :=
  GZ.fork (C := ¬ k = j) (fun p e R s m args below meth c H locs cells slots Q q ls st hC hs hH kt kf => by
    obtain ⟨a, st1, rfl, ha, hs1⟩ := hs.a
    obtain ⟨b, st2, rfl, hb, hs2⟩ := hs1.a
    refine lv_acmp_ne (rx := some b) (ry := some a) hC.1 hC.2.1 hd ht (fun h => kt ?_ _ hs2) (fun h => kf ?_ _ hs2)
    · intro z
      subst z
      exact h (hb.symm.trans ha)
    · exact fun z => z hkj) kt (fun h => kf (Classical.not_not.mp h))
/-- a cast that holds: the object's own class -/
theorem gz_cast {idx k0 ci : Nat} {fs : List Value} {r : vw_C} (hd : decode F.2.1 pc = .ok (.checkcast idx, 3)) (hci : P.2.1[ci]? = some r) (hlk : Cond.classLink F.1.cls idx r.1 ∈ P.1) (hM : M k0 = some (.inr (ci, fs))) (k : GZ l P D F K (pc + 3) gl (.ref k0 :: gst) M n nc ns) : GZ l P D F K pc gl (.ref k0 :: gst) M n nc ns :=
  GZ.pure (fun p e R s m args below meth c H locs cells slots Q q ls st hC hl hs hH kk => by
    obtain ⟨a, st1, rfl, ha, hs1⟩ := hs.a
    obtain ⟨a', ha', r', g, hr', -, ⟨cell, o1, o2, o3, -⟩, -, -⟩ := hH.2.2.2 k0 _ hM
    cases ha.symm.trans ha'
    cases hci.symm.trans hr'
    have hat := (hC.2.2.2.2.2.2.2.2.2.1.1 ci _ hci).2
    exact va_castS hC.1 hC.2.1 hC.2.2.2.1 (hC.2.2.2.2.2.2.2.1 _ hlk) hat ⟨cell, o1, by rw [o3]; rfl, by rw [o2]; exact hat.1⟩ hd (kk ls _ hl ⟨_, _, rfl, ⟨a, ha, rfl⟩, hs1⟩)) rfl k
/-- a reference into an array over a class above the object's own -/
theorem gz_aastoreO {k0 kd len i k1 ci : Nat} {f : Nat → Value} {fs : List Value} {r : vw_C} {C : String} {x : Int32} (hd : decode F.2.1 pc = .ok (.aastore, 1)) (hk : P.2.2.1[kd]? = some (.object C)) (hci : P.2.1[ci]? = some r) (hca : Cond.castable r.1 C ∈ P.1) (hM : M k0 = some (.inl (kd, len, f))) (hM1 : M k1 = some (.inr (ci, fs))) (hx : x = nI i) (hi : i < len) (hn : len < 2 ^ 31) (hk0 : kd ≠ 0)
    (k : GZ l P D F K (pc + 1) gl gst (gz_up M k0 (.inl (kd, len, updV f i (.ref k1)))) n nc ns) : GZ l P D F K pc gl (.ref k1 :: .int x :: .ref k0 :: gst) M n nc ns :=
  GZ.store (fun p e R s m args below meth c H locs cells slots Q q ls st hC hs hH kk => by
    obtain ⟨b, st1, rfl, hb, hs1⟩ := hs.a
    obtain ⟨st2, rfl, hs2⟩ := hs1.i
    obtain ⟨a, st3, rfl, ha, hs3⟩ := hs2.a
    obtain ⟨a', ha', hE⟩ := hH.2.2.2 k0 _ hM
    obtain ⟨g, o1, hg, hge⟩ := hE.wr (by omega) hk0
    cases ha.symm.trans ha'
    obtain ⟨b', hb', r', g1, hr', -, ⟨cellV, p1, p2, p3, -⟩, -, -⟩ := hH.2.2.2 k1 _ hM1
    cases hb.symm.trans hb'
    cases hci.symm.trans hr'
    subst hx
    have hT := hC.2.2.2.2.2.2.2.2.2.1
    have hcls := (hT.1 ci r hci).2
    obtain ⟨kA, comp, k1', k2, k3, -⟩ := (hT.2.1 kd _ hk).2 hk0
    obtain ⟨kE, hkE, -⟩ := Vm.findClass_spec k3
    obtain ⟨kC, hkC, -⟩ := hcls.2
    obtain ⟨c0, t1, f1, f2, f3⟩ := Cond.castable_spec (hC.2.2.2.2.2.2.2.1 _ hca)
    cases hcls.1.symm.trans f1
    cases k3.symm.trans f2
    refine W.aast hC.1 hC.2.1 o1 (fun z h => by cases h) (fun h => by cases h) k1' k2 rfl hkE ⟨nI_pos (by omega), by rw [arrV_size, nI_clamp (by omega)]; exact hi⟩ p1 (fun z h => by rw [p3] at h; cases h) (by rw [p2]; exact hkC) (by rw [p2]; exact f3) rfl rfl hd (fun H' e1 e2 e3 => kk H' _ st3 (hH.set hM ha e2 e3 (gz_e.mkA (g := updV g i (.ref b)) ?_ (fun j hj => ?_) hge)) (fun z hz => ?_) hs3)
    · rw [e1, nI_clamp (by omega), arrV_store]
    · by_cases hji : j = i
      · subst hji
        simp only [updV, if_true]
        exact ⟨b, hb, rfl⟩
      · simp only [updV, if_neg hji]
        exact hg j hj
    · rw [List.mem_singleton.mp hz]
      exact ⟨List.mem_of_getElem? ha, hge⟩) k
end GZM
