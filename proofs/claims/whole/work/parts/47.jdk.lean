/-! The lists' own methods on the ghost heap. Printed by wip/whole/jdk.py -/
theorem gw_31 : (Jvm.Cond.code ({ cls := "java/lang/Object", name := "<init>", desc := "()V" } : Jvm.MethodName) object_method_1_code (1 : Nat) (Option.none : Option Jvm.ClassFile.FieldType)) ∈ P1.1 := gm_t (gm_1 31 (by decide +kernel)) rfl
theorem i32_sar (x n : Int32) {k : Nat} (hn : (n.toBitVec.smod 32).toNat = k) : (x >>> n).toInt = x.toInt / 2 ^ k := by
  have e : (x >>> n).toInt = (x.toBitVec.sshiftRight' (n.toBitVec.smod 32)).toInt := rfl
  rw [e, BitVec.toInt_sshiftRight', hn, Int.shiftRight_eq_div_pow]
  rfl
theorem nI_s1 {s : Nat} (h : 0 < s) : nI s - 1 = nI (s - 1) := by
  obtain ⟨k, rfl⟩ : ∃ k, s = k + 1 := ⟨s - 1, by omega⟩
  exact nI_pred k
theorem j_max {l : Launch} {D : gzD} {K : gzK} {M : gzM} {n nc ns : Nat} {x y : Nat} (hx : x < 2 ^ 31) (hy : y < 2 ^ 31) (k : K (.inl (some (.int (nI (max x y))))) M n nc ns) : GZ l P1 D F_JMath_max K 0 [some (.int (nI x)), some (.int (nI y))] [] M n nc ns := by
  refine gz_iload_n gd_JMath_max_0 rfl rfl ?_
  refine gz_iload_n gd_JMath_max_1 rfl rfl ?_
  refine gz_icmp_lt (tgt := 9) gd_JMath_max_2 (by decide) (fun h2 => ?_) (fun h2 => ?_)
  ·
    replace h2 := (nI_ltI (a := x) (b := y) (by omega) (by omega)).1 h2
    refine gz_iload_n gd_JMath_max_9 rfl rfl ?_
    refine gz_ireturn gd_JMath_max_10 rfl rfl ?_
    rw [show max x y = y by omega] at k
    exact k
  ·
    replace h2 := mt (nI_ltI (a := x) (b := y) (by omega) (by omega)).2 h2
    refine gz_iload_n gd_JMath_max_5 rfl rfl ?_
    refine gz_goto (tgt := 10) gd_JMath_max_6 (by decide) ?_
    refine gz_ireturn gd_JMath_max_10 rfl rfl ?_
    rw [show max x y = x by omega] at k
    exact k

theorem j_min {l : Launch} {D : gzD} {K : gzK} {M : gzM} {n nc ns : Nat} {x y : Nat} (hx : x < 2 ^ 31) (hy : y < 2 ^ 31) (k : K (.inl (some (.int (nI (min x y))))) M n nc ns) : GZ l P1 D F_JMath_min K 0 [some (.int (nI x)), some (.int (nI y))] [] M n nc ns := by
  refine gz_iload_n gd_JMath_min_0 rfl rfl ?_
  refine gz_iload_n gd_JMath_min_1 rfl rfl ?_
  refine gz_icmp_gt (tgt := 9) gd_JMath_min_2 (by decide) (fun h2 => ?_) (fun h2 => ?_)
  ·
    replace h2 := (nI_ltI (a := y) (b := x) (by omega) (by omega)).1 h2
    refine gz_iload_n gd_JMath_min_9 rfl rfl ?_
    refine gz_ireturn gd_JMath_min_10 rfl rfl ?_
    rw [show min x y = y by omega] at k
    exact k
  ·
    replace h2 := mt (nI_ltI (a := y) (b := x) (by omega) (by omega)).2 h2
    refine gz_iload_n gd_JMath_min_5 rfl rfl ?_
    refine gz_goto (tgt := 10) gd_JMath_min_6 (by decide) ?_
    refine gz_ireturn gd_JMath_min_10 rfl rfl ?_
    rw [show min x y = x by omega] at k
    exact k

theorem j_newLength {l : Launch} {D : gzD} {K : gzK} {M : gzM} {n nc ns : Nat} {x y z : Nat} (hy : 0 < y) (hb : x + y + z < 2147483639) (k : K (.inl (some (.int (nI (x + max y z))))) M n nc ns) : GZ l P1 D F_JArraysSupport_newLength K 0 [some (.int (nI x)), some (.int (nI y)), some (.int (nI z)), none] [] M n nc ns := by
  refine gz_iload_n gd_JArraysSupport_newLength_0 rfl rfl ?_
  refine gz_iload_n gd_JArraysSupport_newLength_1 rfl rfl ?_
  refine gz_iload_n gd_JArraysSupport_newLength_2 rfl rfl ?_
  refine gz_static2 gd_JArraysSupport_newLength_3 gs_JArraysSupport_newLength_3 (Nat.le_of_ble_eq_true rfl) (Nat.le_of_ble_eq_true rfl) ?_
  refine j_max (by omega) (by omega) ?_
  refine gq_iadd (z := nI (x + max y z)) gd_JArraysSupport_newLength_6 (nI_add x (max y z)) ?_
  refine gz_istore_n gd_JArraysSupport_newLength_7 rfl (Nat.le_of_ble_eq_true rfl) rfl ?_
  refine gz_iconst (v := 0) gd_JArraysSupport_newLength_8 (by decide) ?_
  refine gz_iload_n gd_JArraysSupport_newLength_9 rfl rfl ?_
  refine gz_icmp_ge (tgt := 21) gd_JArraysSupport_newLength_10 (by decide) (fun h10 => ?_) (fun h10 => ?_)
  ·
    replace h10 := (nI_leI (a := x + max y z) (b := 0) (by omega) (by omega)).1 h10
    omega
  ·
    replace h10 := mt (nI_leI (a := x + max y z) (b := 0) (by omega) (by omega)).2 h10
    refine gz_iload_n gd_JArraysSupport_newLength_13 rfl rfl ?_
    refine gz_ldc (v := 2147483639) gd_JArraysSupport_newLength_14 gw_463 ?_
    refine gz_icmp_gt (tgt := 21) gd_JArraysSupport_newLength_16 (by decide) (fun h16 => ?_) (fun h16 => ?_)
    ·
      replace h16 := (nI_ltI (a := 2147483639) (b := x + max y z) (by omega) (by omega)).1 h16
      omega
    ·
      replace h16 := mt (nI_ltI (a := 2147483639) (b := x + max y z) (by omega) (by omega)).2 h16
      refine gz_iload_n gd_JArraysSupport_newLength_19 rfl rfl ?_
      refine gz_ireturn gd_JArraysSupport_newLength_20 rfl rfl ?_
      exact k

theorem j_preCheck {l : Launch} {D : gzD} {K : gzK} {M : gzM} {n nc ns : Nat} {i s : Nat} (hi : i < s) (hs : s < 2 ^ 31) (k : K (.inl (some (.int (nI i)))) M n nc ns) : GZ l P1 D F_JPreconditions_checkIndex K 0 [some (.int (nI i)), some (.int (nI s)), some (.null)] [] M n nc ns := by
  refine gz_iload_n gd_JPreconditions_checkIndex_0 rfl rfl ?_
  refine gz_if_lt (tgt := 9) gd_JPreconditions_checkIndex_1 (by decide) (fun h1 => ?_) (fun h1 => ?_)
  ·
    exact absurd h1 (nI_pos (by omega))
  ·
    refine gz_iload_n gd_JPreconditions_checkIndex_4 rfl rfl ?_
    refine gz_iload_n gd_JPreconditions_checkIndex_5 rfl rfl ?_
    refine gz_icmp_lt (tgt := 16) gd_JPreconditions_checkIndex_6 (by decide) (fun h6 => ?_) (fun h6 => ?_)
    ·
      replace h6 := (nI_ltI (a := i) (b := s) (by omega) (by omega)).1 h6
      refine gz_iload_n gd_JPreconditions_checkIndex_16 rfl rfl ?_
      refine gz_ireturn gd_JPreconditions_checkIndex_17 rfl rfl ?_
      exact k
    ·
      replace h6 := mt (nI_ltI (a := i) (b := s) (by omega) (by omega)).2 h6
      omega

theorem j_check {l : Launch} {D : gzD} {K : gzK} {M : gzM} {n nc ns : Nat} {i s : Nat} (hi : i < s) (hs : s < 2 ^ 31) (k : K (.inl (some (.int (nI i)))) M n nc ns) : GZ l P1 D F_JObjects_checkIndex K 0 [some (.int (nI i)), some (.int (nI s))] [] M n nc ns := by
  refine gz_iload_n gd_JObjects_checkIndex_0 rfl rfl ?_
  refine gz_iload_n gd_JObjects_checkIndex_1 rfl rfl ?_
  refine gz_null gd_JObjects_checkIndex_2 ?_
  refine gz_static3 gd_JObjects_checkIndex_3 gs_JObjects_checkIndex_3 (Nat.le_of_ble_eq_true rfl) (Nat.le_of_ble_eq_true rfl) ?_
  refine j_preCheck (by omega) (by omega) ?_
  refine gz_ireturn gd_JObjects_checkIndex_6 rfl rfl ?_
  exact k

theorem j_size {l : Launch} {D : gzD} {K : gzK} {M : gzM} {n nc ns : Nat} {a bb s : Nat} {mc : Int32} (hA : M a = some (.inr (7, [.ref bb, .int (nI s), .int mc]))) (k : K (.inl (some (.int (nI s)))) M n nc ns) : GZ l P1 D F_JArrayList_size K 0 [some (.ref a)] [] M n nc ns := by
  refine gz_aload_n gd_JArrayList_size_0 rfl rfl (gz_isr.r _) ?_
  refine gz_getf gd_JArrayList_size_1 gf_JArrayList_48 hA rfl ?_
  refine gz_ireturn gd_JArrayList_size_4 rfl rfl ?_
  exact k

theorem j_isEmpty {l : Launch} {D : gzD} {K : gzK} {M : gzM} {n nc ns : Nat} {a bb s : Nat} {mc : Int32} (hA : M a = some (.inr (7, [.ref bb, .int (nI s), .int mc]))) (hs : s < 2 ^ 31) (k : K (.inl (some (.int (bI (decide (s = 0)))))) M n nc ns) : GZ l P1 D F_JArrayList_isEmpty K 0 [some (.ref a)] [] M n nc ns := by
  refine gz_aload_n gd_JArrayList_isEmpty_0 rfl rfl (gz_isr.r _) ?_
  refine gz_getf gd_JArrayList_isEmpty_1 gf_JArrayList_48 hA rfl ?_
  refine gz_if_ne (tgt := 11) gd_JArrayList_isEmpty_4 (by decide) (fun h4 => ?_) (fun h4 => ?_)
  ·
    replace h4 := mt (nI_z (by omega)).2 h4
    refine gz_iconst (v := 0) gd_JArrayList_isEmpty_11 (by decide) ?_
    refine gz_ireturn gd_JArrayList_isEmpty_12 rfl rfl ?_
    rw [show decide (s = 0) = false by simp [h4]] at k
    exact k
  ·
    replace h4 := (nI_z (by omega)).1 h4
    refine gz_iconst (v := 1) gd_JArrayList_isEmpty_7 (by decide) ?_
    refine gz_goto (tgt := 12) gd_JArrayList_isEmpty_8 (by decide) ?_
    refine gz_ireturn gd_JArrayList_isEmpty_12 rfl rfl ?_
    rw [show decide (s = 0) = true by simp [h4]] at k
    exact k

theorem j_elementData {l : Launch} {D : gzD} {K : gzK} {M : gzM} {n nc ns : Nat} {a bb s cap : Nat} {el : Nat → Value} {mc : Int32} (hA : M a = some (.inr (7, [.ref bb, .int (nI s), .int mc]))) (hB : M bb = some (.inl (7, cap, el))) {i kk : Nat} (hi : i < cap) (hc : cap < 2 ^ 31) (he : el i = .ref kk) (k : K (.inl (some (.ref kk))) M n nc ns) : GZ l P1 D F_JArrayList_elementData K 0 [some (.ref a), some (.int (nI i))] [] M n nc ns := by
  refine gz_aload_n gd_JArrayList_elementData_0 rfl rfl (gz_isr.r _) ?_
  refine gz_getf gd_JArrayList_elementData_1 gf_JArrayList_9 hA rfl ?_
  refine gz_iload_n gd_JArrayList_elementData_4 rfl rfl ?_
  refine gz_aaload gd_JArrayList_elementData_5 rfl hB rfl hi hc he ?_
  refine gz_areturn gd_JArrayList_elementData_6 rfl (Or.inl ⟨_, rfl⟩) (gz_isr.r _) ?_
  exact k

theorem j_get {l : Launch} {D : gzD} {K : gzK} {M : gzM} {n nc ns : Nat} {a bb s cap : Nat} {el : Nat → Value} {mc : Int32} (hA : M a = some (.inr (7, [.ref bb, .int (nI s), .int mc]))) (hB : M bb = some (.inl (7, cap, el))) {i kk : Nat} (hi : i < s) (hsc : s ≤ cap) (hc : cap < 2 ^ 31) (he : el i = .ref kk) (k : K (.inl (some (.ref kk))) M n nc ns) : GZ l P1 D F_JArrayList_get K 0 [some (.ref a), some (.int (nI i))] [] M n nc ns := by
  refine gz_iload_n gd_JArrayList_get_0 rfl rfl ?_
  refine gz_aload_n gd_JArrayList_get_1 rfl rfl (gz_isr.r _) ?_
  refine gz_getf gd_JArrayList_get_2 gf_JArrayList_48 hA rfl ?_
  refine gz_static2 gd_JArrayList_get_5 gs_JArrayList_get_5 (Nat.le_of_ble_eq_true rfl) (Nat.le_of_ble_eq_true rfl) ?_
  refine j_check (by omega) (by omega) ?_
  refine gz_pop gd_JArrayList_get_8 rfl ?_
  refine gz_aload_n gd_JArrayList_get_9 rfl rfl (gz_isr.r _) ?_
  refine gz_iload_n gd_JArrayList_get_10 rfl rfl ?_
  refine gz_virtual1 gd_JArrayList_get_11 hA rfl rfl gs_JArrayList_get_11 (Nat.le_of_ble_eq_true rfl) (Nat.le_of_ble_eq_true rfl) ?_
  refine j_elementData hA hB (by omega) (by omega) he ?_
  refine gz_areturn gd_JArrayList_get_14 rfl (Or.inl ⟨_, rfl⟩) (gz_isr.r _) ?_
  exact k

theorem j_acInit {l : Launch} {D : gzD} {K : gzK} {M : gzM} {n nc ns : Nat} {a : Nat} (k : K (.inl none) M n nc ns) : GZ l P1 D F_JAbstractCollection_init K 0 [some (.ref a)] [] M n nc ns := by
  refine gz_aload_n gd_JAbstractCollection_init_0 rfl rfl (gz_isr.r _) ?_
  refine gz_objInit gd_JAbstractCollection_init_1 gw_47 gw_30 gw_31 (by decide) (Nat.le_of_ble_eq_true rfl) ?_
  refine gz_return gd_JAbstractCollection_init_4 rfl ?_
  exact k

theorem j_alInit {l : Launch} {D : gzD} {K : gzK} {M : gzM} {n nc ns : Nat} {a : Nat} {x0 x1 x2 : Value} (hA : M a = some (.inr (7, [x0, x1, x2]))) (k : ∀ M', M' a = some (.inr (7, [x0, x1, .int 0])) → (∀ j, j ≠ a → M' j = M j) → K (.inl none) M' n nc ns) : GZ l P1 D F_JAbstractList_init K 0 [some (.ref a)] [] M n nc ns := by
  refine gz_aload_n gd_JAbstractList_init_0 rfl rfl (gz_isr.r _) ?_
  refine gz_special0 gd_JAbstractList_init_1 gs_JAbstractList_init_1 (Nat.le_of_ble_eq_true rfl) (Nat.le_of_ble_eq_true rfl) ?_
  refine j_acInit ?_
  refine gz_aload_n gd_JAbstractList_init_4 rfl rfl (gz_isr.r _) ?_
  refine gz_iconst (v := 0) gd_JAbstractList_init_5 (by decide) ?_
  refine gy_putf gd_JAbstractList_init_6 gf_JAbstractList_7 gc_7 gr_JAbstractList_init_7_2 hA (gz_fits.i) (fun M hA hN => ?_)
  refine gz_return gd_JAbstractList_init_9 rfl ?_
  exact k _ hA hN

theorem j_init {l : Launch} {D : gzD} {K : gzK} {M : gzM} {n nc ns : Nat} {a : Nat} {x0 x1 x2 : Value} (hA : M a = some (.inr (7, [x0, x1, x2]))) (k : ∀ M', M' a = some (.inr (7, [.ref 1, x1, .int 0])) → (∀ j, j ≠ a → M' j = M j) → K (.inl none) M' n nc ns) : GZ l P1 D F_JArrayList_init K 0 [some (.ref a)] [] M n nc ns := by
  refine gz_aload_n gd_JArrayList_init_0 rfl rfl (gz_isr.r _) ?_
  refine gz_special0 gd_JArrayList_init_1 gs_JArrayList_init_1 (Nat.le_of_ble_eq_true rfl) (Nat.le_of_ble_eq_true rfl) ?_
  refine j_alInit hA (fun M hA hN => ?_)
  refine gz_aload_n gd_JArrayList_init_4 rfl rfl (gz_isr.r _) ?_
  have hN1 := hN
  refine gz_getstatic gd_JArrayList_init_5 (C := "java/util/ArrayList") (nm := "DEFAULTCAPACITY_EMPTY_ELEMENTDATA") (ds := "[Ljava/lang/Object;") (List.mem_singleton.mpr rfl) gw_48 rfl ?_
  refine gy_putf gd_JArrayList_init_8 gf_JArrayList_9 gc_7 gr_JArrayList_init_7_0 hA (gz_fits.a (gz_isr.r _)) (fun M hA hN => ?_)
  refine gz_return gd_JArrayList_init_11 rfl ?_
  exact k _ hA (fun j hj => (hN j hj).trans (hN1 j hj))

theorem j_fill {l : Launch} {D : gzD} {K : gzK} {M : gzM} {n nc ns : Nat} {a len : Nat} {f : Nat → Value} {x : Int32} (hA : M a = some (.inl (1, len, f))) (hl : len < 2 ^ 31) (k : ∀ M' f', M' a = some (.inl (1, len, f')) → (∀ q, q < len → f' q = .int x) → (∀ j, j ≠ a → M' j = M j) → K (.inl none) M' n nc ns) : GZ l P1 D F_JArrays_fill K 0 [some (.ref a), some (.int x), none, none] [] M n nc ns := by
  refine gz_iconst (v := 0) gd_JArrays_fill_0 (by decide) ?_
  refine gz_istore_n gd_JArrays_fill_1 rfl (Nat.le_of_ble_eq_true rfl) rfl ?_
  refine gz_aload_n gd_JArrays_fill_2 rfl rfl (gz_isr.r _) ?_
  refine gz_alen gd_JArrays_fill_3 rfl hA ?_
  refine gz_istore_n gd_JArrays_fill_4 rfl (Nat.le_of_ble_eq_true rfl) rfl ?_
  have loop : ∀ (j i : Nat), i + j = len → ∀ (M1 : gzM) (f : Nat → Value), M1 a = some (.inl (1, len, f)) → (∀ q, q < i → f q = .int x) → (∀ q, q ≠ a → M1 q = M q) → GZ l P1 D F_JArrays_fill K 5 [some (.ref a), some (.int x), some (.int (nI i)), some (.int (nI len))] [] M1 n nc ns := by
    intro j
    induction j with
    | zero =>
      intro i hi M1 f hA hf hF
      refine gz_iload_n gd_JArrays_fill_5 rfl rfl ?_
      refine gz_iload_n gd_JArrays_fill_6 rfl rfl ?_
      refine gz_icmp_ge (tgt := 20) gd_JArrays_fill_7 (by decide) (fun h7 => ?_) (fun h7 => ?_)
      ·
        replace h7 := (nI_leI (a := len) (b := i) (by omega) (by omega)).1 h7
        refine gz_return gd_JArrays_fill_20 rfl ?_
        exact k _ _ hA (fun q hq => hf q (by omega)) hF
      ·
        replace h7 := mt (nI_leI (a := len) (b := i) (by omega) (by omega)).2 h7
        omega
    | succ j ih =>
      intro i hi M1 f hA hf hF
      refine gz_iload_n gd_JArrays_fill_5 rfl rfl ?_
      refine gz_iload_n gd_JArrays_fill_6 rfl rfl ?_
      refine gz_icmp_ge (tgt := 20) gd_JArrays_fill_7 (by decide) (fun h7 => ?_) (fun h7 => ?_)
      ·
        replace h7 := (nI_leI (a := len) (b := i) (by omega) (by omega)).1 h7
        omega
      ·
        replace h7 := mt (nI_leI (a := len) (b := i) (by omega) (by omega)).2 h7
        refine gz_aload_n gd_JArrays_fill_10 rfl rfl (gz_isr.r _) ?_
        refine gz_iload_n gd_JArrays_fill_11 rfl rfl ?_
        refine gz_iload_n gd_JArrays_fill_12 rfl rfl ?_
        refine gy_iastore gd_JArrays_fill_13 rfl hA rfl (by omega) hl (by decide) (fun M2 hA2 hN => ?_)
        refine gz_iinc (v := nI (i + 1)) gd_JArrays_fill_14 rfl (nI_1 i) (Nat.le_of_ble_eq_true rfl) rfl ?_
        refine gz_goto (tgt := 5) gd_JArrays_fill_17 (by decide) ?_
        exact ih (i + 1) (by omega) _ _ hA2 (fun q hq => by
          by_cases e : q = i
          · rw [e]; simp [updV]
          · simp only [updV, if_neg e]
            exact hf q (by omega)) (fun q hq => (hN q hq).trans (hF q hq))
  exact loop len 0 (by omega) M f hA (fun q hq => absurd hq (Nat.not_lt_zero _)) (fun q _ => rfl)

theorem j_el {M M' : gzM} {el : Nat → Value} {sp cn cap : Nat} (hel : ∀ i, i < cap → ∃ (q ci : Nat) (fs : List Value), el i = .ref q ∧ M q = some (.inr (ci, fs)) ∧ (ci = 1 ∨ ci = 2)) (hM : ∀ q ci fs, M q = some (.inr (ci, fs)) → ci = 1 ∨ ci = 2 → M' q = some (.inr (ci, fs))) (h : sp + cn ≤ cap) : ∀ i, i < cn → el (sp + i) = .null ∨ ∃ (k ci : Nat) (fs : List Value) (r : vw_C), el (sp + i) = .ref k ∧ M' k = some (.inr (ci, fs)) ∧ P1.2.1[ci]? = some r ∧ Cond.castable r.1 "java/lang/Object" ∈ P1.1 := by
  intro i hi
  obtain ⟨q, ci, fs, h1, h2, h3⟩ := hel (sp + i) (by omega)
  have h4 := hM q ci fs h2 h3
  rcases h3 with e | e
  · subst e
    exact Or.inr ⟨q, 1, fs, _, h1, h4, rfl, gw_1060⟩
  · subst e
    exact Or.inr ⟨q, 2, fs, _, h1, h4, rfl, gw_1061⟩
theorem j_copy3 {l : Launch} {D : gzD} {K : gzK} {M : gzM} {n nc ns : Nat} {bb cap N : Nat} {el : Nat → Value} (hB : M bb = some (.inl (7, cap, el))) (hel : ∀ i, i < cap → ∃ (q ci : Nat) (fs : List Value), el i = .ref q ∧ M q = some (.inr (ci, fs)) ∧ (ci = 1 ∨ ci = 2)) (hN : cap ≤ N) (hpos : 0 < N) (hmax : N ≤ 100000) (hfr : M n = none) (hnc : nc + 1 ≤ D.2.2.2.1) (hns : ns + N ≤ D.2.2.2.2.1) (k : ∀ M' f', M' n = some (.inl (7, N, f')) → (∀ i, i < cap → f' i = el i) → (∀ j, j ≠ n → M' j = M j) → K (.inl (some (.ref n))) M' (n + 1) (nc + 1) (ns + N)) : GZ l P1 D F_JArrays_copyOf3 K 0 [some (.ref bb), some (.int (nI N)), some (.ref 0), none] [] M n nc ns := by
  refine gz_aload_n gd_JArrays_copyOf3_0 rfl rfl (gz_isr.r _) ?_
  refine gz_ldcM gd_JArrays_copyOf3_1 (C := "[Ljava/lang/Object;") (List.mem_singleton.mpr rfl) gw_489 ?_
  refine gz_acmp_ne (tgt := 13) gd_JArrays_copyOf3_3 (by decide) rfl (fun h3 => ?_) (fun h3 => ?_)
  ·
    exact absurd rfl h3
  ·
    refine gz_iload_n gd_JArrays_copyOf3_6 rfl rfl ?_
    refine gy_anewarray (kd := 7) gd_JArrays_copyOf3_7 rfl gw_491 gw_490 rfl (by omega) hnc hns (fun M1 hX hN1 => ?_)
    have hbn : bb ≠ n := fun e => by rw [e, hfr] at hB; cases hB
    have hB1 := (hN1 bb hbn).trans hB
    refine gz_goto (tgt := 24) gd_JArrays_copyOf3_10 (by decide) ?_
    refine gz_astore_n gd_JArrays_copyOf3_24 rfl (Nat.le_of_ble_eq_true rfl) rfl (gz_isr.r _) ?_
    refine gz_aload_n gd_JArrays_copyOf3_25 rfl rfl (gz_isr.r _) ?_
    refine gz_iconst (v := 0) gd_JArrays_copyOf3_26 (by decide) ?_
    refine gz_aload_n gd_JArrays_copyOf3_27 rfl rfl (gz_isr.r _) ?_
    refine gz_iconst (v := 0) gd_JArrays_copyOf3_28 (by decide) ?_
    refine gz_aload_n gd_JArrays_copyOf3_29 rfl rfl (gz_isr.r _) ?_
    refine gz_alen gd_JArrays_copyOf3_30 rfl hB1 ?_
    refine gz_iload_n gd_JArrays_copyOf3_31 rfl rfl ?_
    refine gz_static2 gd_JArrays_copyOf3_32 gs_JArrays_copyOf3_32 (Nat.le_of_ble_eq_true rfl) (Nat.le_of_ble_eq_true rfl) ?_
    refine j_min (by omega) (by omega) ?_
    refine gz_arraycopy (kd := 7) (kd1 := 7) (sp := 0) (dp := 0) (cn := min cap N) gd_JArrays_copyOf3_35 gw_495 gw_497 gw_496 gw_20 rfl rfl hB1 hX rfl rfl rfl (by omega) (by omega) (by omega) (by omega) hpos (by decide) (j_el hel (fun q ci fs h1 _ => (hN1 q (fun e => by rw [e, hfr] at h1; cases h1)).trans h1) (by omega)) (by decide) (Nat.le_of_ble_eq_true rfl) ?_
    have hX2 : gz_up M1 n (.inl (7, N, va_cpy el (fun _ => .null) 0 0 (min cap N))) n = _ := gz_up_s
    have hN2 : ∀ j, j ≠ n → gz_up M1 n (.inl (7, N, va_cpy el (fun _ => .null) 0 0 (min cap N))) j = M1 j := fun j hj => gz_up_n hj
    generalize gz_up M1 n (.inl (7, N, va_cpy el (fun _ => .null) 0 0 (min cap N))) = M2 at hX2 hN2 ⊢
    refine gz_aload_n gd_JArrays_copyOf3_38 rfl rfl (gz_isr.r _) ?_
    refine gz_areturn gd_JArrays_copyOf3_39 rfl (Or.inr ⟨_, rfl⟩) (gz_isr.r _) ?_
    exact k _ _ hX2 (fun i hi => by simp [va_cpy, show i < min cap N by omega]) (fun j hj => (hN2 j hj).trans (hN1 j hj))

theorem j_copyOf {l : Launch} {D : gzD} {K : gzK} {M : gzM} {n nc ns : Nat} {bb cap N : Nat} {el : Nat → Value} (hB : M bb = some (.inl (7, cap, el))) (hel : ∀ i, i < cap → ∃ (q ci : Nat) (fs : List Value), el i = .ref q ∧ M q = some (.inr (ci, fs)) ∧ (ci = 1 ∨ ci = 2)) (hN : cap ≤ N) (hpos : 0 < N) (hmax : N ≤ 100000) (hfr : M n = none) (hnc : nc + 1 ≤ D.2.2.2.1) (hns : ns + N ≤ D.2.2.2.2.1) (k : ∀ M' f', M' n = some (.inl (7, N, f')) → (∀ i, i < cap → f' i = el i) → (∀ j, j ≠ n → M' j = M j) → K (.inl (some (.ref n))) M' (n + 1) (nc + 1) (ns + N)) : GZ l P1 D F_JArrays_copyOf K 0 [some (.ref bb), some (.int (nI N))] [] M n nc ns := by
  refine gz_aload_n gd_JArrays_copyOf_0 rfl rfl (gz_isr.r _) ?_
  refine gz_iload_n gd_JArrays_copyOf_1 rfl rfl ?_
  refine gz_aload_n gd_JArrays_copyOf_2 rfl rfl (gz_isr.r _) ?_
  refine gz_getC (k0 := 0) (kd := 7) (nm := "[Ljava/lang/Object;") gd_JArrays_copyOf_3 rfl rfl (List.mem_singleton.mpr rfl) gw_470 gw_1054 gw_1053 gw_471 gw_485 hB (by decide) (Nat.le_of_ble_eq_true rfl) ?_
  refine gz_static3 gd_JArrays_copyOf_6 gs_JArrays_copyOf_6 (Nat.le_of_ble_eq_true rfl) (Nat.le_of_ble_eq_true rfl) ?_
  refine j_copy3 hB hel hN hpos hmax hfr hnc hns (fun M f hX hY hN2 => ?_)
  refine gz_areturn gd_JArrays_copyOf_9 rfl (Or.inr ⟨_, rfl⟩) (gz_isr.r _) ?_
  exact k _ _ hX hY hN2

theorem nI_half {c : Nat} (h : c < 2 ^ 31) : nI c >>> ((1 : Int32) &&& 31) = nI (c / 2) := by
  apply Int32.toInt_inj.1
  rw [i32_sar _ _ (k := 1) (by decide), nI_toInt h, nI_toInt (by omega)]
  omega
def capN (c : Nat) : Nat := if c = 0 then 10 else c + max 1 (c / 2)
theorem capN_le (c : Nat) : c < capN c ∧ 4 * c ≤ 3 * capN c ∧ capN c ≤ c + c / 2 + 10 := by
  unfold capN
  split <;> omega
theorem j_growI {l : Launch} {D : gzD} {K : gzK} {M : gzM} {n nc ns : Nat} {a bb cap : Nat} {el : Nat → Value} {mc : Int32} (hA : M a = some (.inr (7, [.ref bb, .int (nI cap), .int mc]))) (hB : M bb = some (.inl (7, cap, el))) (hel : ∀ i, i < cap → ∃ (q ci : Nat) (fs : List Value), el i = .ref q ∧ M q = some (.inr (ci, fs)) ∧ (ci = 1 ∨ ci = 2)) (hb1 : cap = 0 ↔ bb = 1) (hcap : cap ≤ 20000) (hfr : M n = none) (hnc : nc + 1 ≤ D.2.2.2.1) (hns : ns + capN cap ≤ D.2.2.2.2.1) (k : ∀ M' f', M' a = some (.inr (7, [.ref n, .int (nI cap), .int mc])) → M' n = some (.inl (7, capN cap, f')) → (∀ i, i < cap → f' i = el i) → (∀ j, j ≠ a → j ≠ n → M' j = M j) → K (.inl (some (.ref n))) M' (n + 1) (nc + 1) (ns + capN cap)) : GZ l P1 D F_JArrayList_growI K 0 [some (.ref a), some (.int (nI (cap + 1))), none, none] [] M n nc ns := by
  have hba : bb ≠ a := fun e => by rw [e, hA] at hB; cases hB
  have han : a ≠ n := fun e => by rw [e, hfr] at hA; cases hA
  have hbn : bb ≠ n := fun e => by rw [e, hfr] at hB; cases hB
  have hcn := capN_le cap
  refine gz_aload_n gd_JArrayList_growI_0 rfl rfl (gz_isr.r _) ?_
  refine gz_getf gd_JArrayList_growI_1 gf_JArrayList_9 hA rfl ?_
  refine gz_alen gd_JArrayList_growI_4 rfl hB ?_
  refine gz_istore_n gd_JArrayList_growI_5 rfl (Nat.le_of_ble_eq_true rfl) rfl ?_
  refine gz_iload_n gd_JArrayList_growI_6 rfl rfl ?_
  refine gz_if_gt (tgt := 20) gd_JArrayList_growI_7 (by decide) (fun h7 => ?_) (fun h7 => ?_)
  ·
    replace h7 := (nI_gt0 (by omega)).1 h7
    refine gz_iload_n gd_JArrayList_growI_20 rfl rfl ?_
    refine gz_iload_n gd_JArrayList_growI_21 rfl rfl ?_
    refine gz_iload_n gd_JArrayList_growI_22 rfl rfl ?_
    refine gq_isub (z := nI 1) gd_JArrayList_growI_23 (show nI (cap + 1) - nI cap = nI 1 by rw [pk_sub (by omega), show cap + 1 - cap = 1 by omega]) ?_
    refine gz_iload_n gd_JArrayList_growI_24 rfl rfl ?_
    refine gz_iconst (v := 1) gd_JArrayList_growI_25 (by decide) ?_
    refine gz_ishr gd_JArrayList_growI_26 ?_
    rw [nI_half (by omega)]
    refine gz_static3 gd_JArrayList_growI_27 gs_JArrayList_growI_27 (Nat.le_of_ble_eq_true rfl) (Nat.le_of_ble_eq_true rfl) ?_
    refine j_newLength (by omega) (by omega) ?_
    refine gz_istore_n gd_JArrayList_growI_30 rfl (Nat.le_of_ble_eq_true rfl) rfl ?_
    refine gz_aload_n gd_JArrayList_growI_31 rfl rfl (gz_isr.r _) ?_
    refine gz_aload_n gd_JArrayList_growI_32 rfl rfl (gz_isr.r _) ?_
    refine gz_getf gd_JArrayList_growI_33 gf_JArrayList_9 hA rfl ?_
    refine gz_iload_n gd_JArrayList_growI_36 rfl rfl ?_
    refine gz_static2 gd_JArrayList_growI_37 gs_JArrayList_growI_37 (Nat.le_of_ble_eq_true rfl) (Nat.le_of_ble_eq_true rfl) ?_
    have hcz : capN cap = cap + max 1 (cap / 2) := if_neg (by omega)
    rw [← hcz]
    refine j_copyOf (N := capN cap) hB hel (by omega) (by omega) (by omega) hfr hnc hns (fun M1 f hX hY hN1 => ?_)
    have hA1 := (hN1 a han).trans hA
    refine gz_dup_x1 gd_JArrayList_growI_40 rfl rfl ?_
    refine gy_putf gd_JArrayList_growI_41 gf_JArrayList_9 gc_7 gr_JArrayList_growI_7_0 hA1 (gz_fits.a (gz_isr.r _)) (fun M hA hN => ?_)
    have hXm := (hN n (Ne.symm han)).trans hX
    refine gz_areturn gd_JArrayList_growI_44 rfl (Or.inr ⟨_, rfl⟩) (gz_isr.r _) ?_
    exact k _ _ hA hXm hY (fun j h1 h2 => (hN j h1).trans (hN1 j h2))
  ·
    replace h7 := mt (nI_gt0 (by omega)).2 h7
    refine gz_aload_n gd_JArrayList_growI_10 rfl rfl (gz_isr.r _) ?_
    refine gz_getf gd_JArrayList_growI_11 gf_JArrayList_9 hA rfl ?_
    refine gz_getstatic gd_JArrayList_growI_14 (C := "java/util/ArrayList") (nm := "DEFAULTCAPACITY_EMPTY_ELEMENTDATA") (ds := "[Ljava/lang/Object;") (List.mem_singleton.mpr rfl) gw_48 rfl ?_
    refine gz_acmp_eq (tgt := 45) gd_JArrayList_growI_17 (by decide) (hb1.1 (by omega)) (fun h17 => ?_) (fun h17 => ?_)
    ·
      refine gz_aload_n gd_JArrayList_growI_45 rfl rfl (gz_isr.r _) ?_
      refine gz_bipush (v := 10) gd_JArrayList_growI_46 (by decide) ?_
      refine gz_iload_n gd_JArrayList_growI_48 rfl rfl ?_
      refine gz_static2 gd_JArrayList_growI_49 gs_JArrayList_growI_49 (Nat.le_of_ble_eq_true rfl) (Nat.le_of_ble_eq_true rfl) ?_
      refine j_max (x := 10) (y := cap + 1) (by decide) (by omega) ?_
      have hcz : capN cap = 10 := if_pos (by omega)
      rw [show max 10 (cap + 1) = capN cap by omega]
      refine gy_anewarray (kd := 7) gd_JArrayList_growI_52 rfl gw_499 gw_490 rfl (by omega) hnc hns (fun M1 hX hN1 => ?_)
      have hA1 := (hN1 a han).trans hA
      refine gz_dup_x1 gd_JArrayList_growI_55 rfl rfl ?_
      refine gy_putf gd_JArrayList_growI_56 gf_JArrayList_9 gc_7 gr_JArrayList_growI_7_0 hA1 (gz_fits.a (gz_isr.r _)) (fun M hA hN => ?_)
      have hXm := (hN n (Ne.symm han)).trans hX
      refine gz_areturn gd_JArrayList_growI_59 rfl (Or.inr ⟨_, rfl⟩) (gz_isr.r _) ?_
      exact k _ _ hA hXm (fun i hi => absurd hi (by omega)) (fun j h1 h2 => (hN j h1).trans (hN1 j h2))
    ·
      exact absurd (hb1.1 (by omega)) h17

theorem j_grow {l : Launch} {D : gzD} {K : gzK} {M : gzM} {n nc ns : Nat} {a bb cap : Nat} {el : Nat → Value} {mc : Int32} (hA : M a = some (.inr (7, [.ref bb, .int (nI cap), .int mc]))) (hB : M bb = some (.inl (7, cap, el))) (hel : ∀ i, i < cap → ∃ (q ci : Nat) (fs : List Value), el i = .ref q ∧ M q = some (.inr (ci, fs)) ∧ (ci = 1 ∨ ci = 2)) (hb1 : cap = 0 ↔ bb = 1) (hcap : cap ≤ 20000) (hfr : M n = none) (hnc : nc + 1 ≤ D.2.2.2.1) (hns : ns + capN cap ≤ D.2.2.2.2.1) (k : ∀ M' f', M' a = some (.inr (7, [.ref n, .int (nI cap), .int mc])) → M' n = some (.inl (7, capN cap, f')) → (∀ i, i < cap → f' i = el i) → (∀ j, j ≠ a → j ≠ n → M' j = M j) → K (.inl (some (.ref n))) M' (n + 1) (nc + 1) (ns + capN cap)) : GZ l P1 D F_JArrayList_grow K 0 [some (.ref a)] [] M n nc ns := by
  refine gz_aload_n gd_JArrayList_grow_0 rfl rfl (gz_isr.r _) ?_
  refine gz_aload_n gd_JArrayList_grow_1 rfl rfl (gz_isr.r _) ?_
  refine gz_getf gd_JArrayList_grow_2 gf_JArrayList_48 hA rfl ?_
  refine gz_iconst (v := 1) gd_JArrayList_grow_5 (by decide) ?_
  refine gq_iadd (z := nI (cap + 1)) gd_JArrayList_grow_6 (nI_add cap 1) ?_
  refine gz_virtual1 gd_JArrayList_grow_7 hA rfl rfl gs_JArrayList_grow_7 (Nat.le_of_ble_eq_true rfl) (Nat.le_of_ble_eq_true rfl) ?_
  refine j_growI hA hB hel hb1 hcap hfr hnc hns (fun M f hA hX hY hN => ?_)
  refine gz_areturn gd_JArrayList_grow_10 rfl (Or.inr ⟨_, rfl⟩) (gz_isr.r _) ?_
  exact k _ _ hA hX hY hN

theorem j_add3 {l : Launch} {D : gzD} {K : gzK} {M : gzM} {n nc ns : Nat} {a bb s cap : Nat} {el : Nat → Value} {mc : Int32} (hA : M a = some (.inr (7, [.ref bb, .int (nI s), .int mc]))) (hB : M bb = some (.inl (7, cap, el))) (hel : ∀ i, i < s → ∃ (q ci : Nat) (fs : List Value), el i = .ref q ∧ M q = some (.inr (ci, fs)) ∧ (ci = 1 ∨ ci = 2)) {x ci : Nat} {fx : List Value} (hx : M x = some (.inr (ci, fx))) (hci : ci = 1 ∨ ci = 2) (hsc : s ≤ cap) (hb1 : cap = 0 ↔ bb = 1) (hcap : cap ≤ 20000) (hfr : M n = none) (hroom : s = cap → nc + 1 ≤ D.2.2.2.1 ∧ ns + capN cap ≤ D.2.2.2.2.1) (k1 : s < cap → ∀ M' mc', M' a = some (.inr (7, [.ref bb, .int (nI (s + 1)), .int mc'])) → M' bb = some (.inl (7, cap, updV el s (.ref x))) → (∀ j, j ≠ a → j ≠ bb → M' j = M j) → K (.inl none) M' n nc ns) (k2 : s = cap → ∀ M' mc' f', M' a = some (.inr (7, [.ref n, .int (nI (s + 1)), .int mc'])) → M' n = some (.inl (7, capN cap, f')) → (∀ i, i < cap → f' i = el i) → f' s = .ref x → (∀ j, j ≠ a → j ≠ n → M' j = M j) → K (.inl none) M' (n + 1) (nc + 1) (ns + capN cap)) : GZ l P1 D F_JArrayList_add3 K 0 [some (.ref a), some (.ref x), some (.ref bb), some (.int (nI s))] [] M n nc ns := by
  have hba : bb ≠ a := fun e => by rw [e, hA] at hB; cases hB
  have han : a ≠ n := fun e => by rw [e, hfr] at hA; cases hA
  have hbn : bb ≠ n := fun e => by rw [e, hfr] at hB; cases hB
  have hxa : x ≠ a := fun e => by rw [e, hA] at hx; cases hx; omega
  have hxb : x ≠ bb := fun e => by rw [e, hB] at hx; cases hx
  have hxn : x ≠ n := fun e => by rw [e, hfr] at hx; cases hx
  refine gz_iload_n gd_JArrayList_add3_0 rfl rfl ?_
  refine gz_aload_n gd_JArrayList_add3_1 rfl rfl (gz_isr.r _) ?_
  refine gz_alen gd_JArrayList_add3_2 rfl hB ?_
  refine gz_icmp_ne (tgt := 11) gd_JArrayList_add3_3 (by decide) (fun h3 => ?_) (fun h3 => ?_)
  ·
    replace h3 := mt (nI_eq (a := s) (b := cap) (by omega) (by omega)).2 h3
    obtain ⟨r, hr, hca⟩ : ∃ r : vw_C, P1.2.1[ci]? = some r ∧ Cond.castable r.1 "java/lang/Object" ∈ P1.1 := by
      rcases hci with rfl | rfl
      · exact ⟨_, rfl, gw_1060⟩
      · exact ⟨_, rfl, gw_1061⟩
    refine gz_aload_n gd_JArrayList_add3_11 rfl rfl (gz_isr.r _) ?_
    refine gz_iload_n gd_JArrayList_add3_12 rfl rfl ?_
    refine gz_aload_n gd_JArrayList_add3_13 rfl rfl (gz_isr.r _) ?_
    refine gy_aastoreO (kd := 7) gd_JArrayList_add3_14 rfl hr hca hB hx rfl (by omega) (by omega) (by decide) (fun M hB hN2 => ?_)
    replace hA := (hN2 a (Ne.symm hba)).trans hA
    refine gz_aload_n gd_JArrayList_add3_15 rfl rfl (gz_isr.r _) ?_
    refine gz_iload_n gd_JArrayList_add3_16 rfl rfl ?_
    refine gz_iconst (v := 1) gd_JArrayList_add3_17 (by decide) ?_
    refine gq_iadd (z := nI (s + 1)) gd_JArrayList_add3_18 (nI_add s 1) ?_
    refine gy_putf gd_JArrayList_add3_19 gf_JArrayList_48 gc_7 gr_JArrayList_add3_7_1 hA gz_fits.i (fun M hA hN3 => ?_)
    replace hB := (hN3 bb hba).trans hB
    refine gz_return gd_JArrayList_add3_22 rfl ?_
    exact k1 (by omega) _ _ hA hB (fun j h1 h2 => (hN3 j h1).trans (hN2 j h2))
  ·
    replace h3 := (nI_eq (a := s) (b := cap) (by omega) (by omega)).1 h3
    refine gz_aload_n gd_JArrayList_add3_6 rfl rfl (gz_isr.r _) ?_
    refine gz_virtual0 gd_JArrayList_add3_7 hA rfl rfl gs_JArrayList_add3_7 (Nat.le_of_ble_eq_true rfl) (Nat.le_of_ble_eq_true rfl) ?_
    have hA0 := hA
    rw [h3] at hA0
    refine j_grow hA0 hB (by rw [← h3]; exact hel) hb1 hcap hfr (hroom h3).1 (hroom h3).2 (fun M f hA hX hY hN => ?_)
    have hcn := capN_le cap
    replace hx := (hN x hxa hxn).trans hx
    refine gz_astore_n gd_JArrayList_add3_10 rfl (Nat.le_of_ble_eq_true rfl) rfl (gz_isr.r _) ?_
    obtain ⟨r, hr, hca⟩ : ∃ r : vw_C, P1.2.1[ci]? = some r ∧ Cond.castable r.1 "java/lang/Object" ∈ P1.1 := by
      rcases hci with rfl | rfl
      · exact ⟨_, rfl, gw_1060⟩
      · exact ⟨_, rfl, gw_1061⟩
    refine gz_aload_n gd_JArrayList_add3_11 rfl rfl (gz_isr.r _) ?_
    refine gz_iload_n gd_JArrayList_add3_12 rfl rfl ?_
    refine gz_aload_n gd_JArrayList_add3_13 rfl rfl (gz_isr.r _) ?_
    refine gy_aastoreO (kd := 7) gd_JArrayList_add3_14 rfl hr hca hX hx rfl (by omega) (by omega) (by decide) (fun M hX hN2 => ?_)
    replace hA := (hN2 a han).trans hA
    refine gz_aload_n gd_JArrayList_add3_15 rfl rfl (gz_isr.r _) ?_
    refine gz_iload_n gd_JArrayList_add3_16 rfl rfl ?_
    refine gz_iconst (v := 1) gd_JArrayList_add3_17 (by decide) ?_
    refine gq_iadd (z := nI (s + 1)) gd_JArrayList_add3_18 (nI_add s 1) ?_
    refine gy_putf gd_JArrayList_add3_19 gf_JArrayList_48 gc_7 gr_JArrayList_add3_7_1 hA gz_fits.i (fun M hA hN3 => ?_)
    replace hX := (hN3 n (Ne.symm han)).trans hX
    refine gz_return gd_JArrayList_add3_22 rfl ?_
    exact k2 h3 _ _ _ hA hX (fun i hi => by simp only [updV, if_neg (show ¬ i = s by omega)]; exact hY i hi) (by simp [updV]) (fun j h1 h2 => (hN3 j h1).trans ((hN2 j h2).trans (hN j h1 h2)))

theorem j_add {l : Launch} {D : gzD} {K : gzK} {M : gzM} {n nc ns : Nat} {a bb s cap : Nat} {el : Nat → Value} {mc : Int32} (hA : M a = some (.inr (7, [.ref bb, .int (nI s), .int mc]))) (hB : M bb = some (.inl (7, cap, el))) (hel : ∀ i, i < s → ∃ (q ci : Nat) (fs : List Value), el i = .ref q ∧ M q = some (.inr (ci, fs)) ∧ (ci = 1 ∨ ci = 2)) {x ci : Nat} {fx : List Value} (hx : M x = some (.inr (ci, fx))) (hci : ci = 1 ∨ ci = 2) (hsc : s ≤ cap) (hb1 : cap = 0 ↔ bb = 1) (hcap : cap ≤ 20000) (hfr : M n = none) (hroom : s = cap → nc + 1 ≤ D.2.2.2.1 ∧ ns + capN cap ≤ D.2.2.2.2.1) (k1 : s < cap → ∀ M' mc', M' a = some (.inr (7, [.ref bb, .int (nI (s + 1)), .int mc'])) → M' bb = some (.inl (7, cap, updV el s (.ref x))) → (∀ j, j ≠ a → j ≠ bb → M' j = M j) → K (.inl (some (.int 1))) M' n nc ns) (k2 : s = cap → ∀ M' mc' f', M' a = some (.inr (7, [.ref n, .int (nI (s + 1)), .int mc'])) → M' n = some (.inl (7, capN cap, f')) → (∀ i, i < cap → f' i = el i) → f' s = .ref x → (∀ j, j ≠ a → j ≠ n → M' j = M j) → K (.inl (some (.int 1))) M' (n + 1) (nc + 1) (ns + capN cap)) : GZ l P1 D F_JArrayList_add K 0 [some (.ref a), some (.ref x)] [] M n nc ns := by
  have hba : bb ≠ a := fun e => by rw [e, hA] at hB; cases hB
  have han : a ≠ n := fun e => by rw [e, hfr] at hA; cases hA
  have hbn : bb ≠ n := fun e => by rw [e, hfr] at hB; cases hB
  have hxa : x ≠ a := fun e => by rw [e, hA] at hx; cases hx; omega
  have hxb : x ≠ bb := fun e => by rw [e, hB] at hx; cases hx
  have hxn : x ≠ n := fun e => by rw [e, hfr] at hx; cases hx
  refine gz_aload_n gd_JArrayList_add_0 rfl rfl (gz_isr.r _) ?_
  refine gz_dup gd_JArrayList_add_1 rfl ?_
  refine gz_getf gd_JArrayList_add_2 gf_JArrayList_63 hA rfl ?_
  refine gz_iconst (v := 1) gd_JArrayList_add_5 (by decide) ?_
  refine gq_iadd (z := (mc + 1)) gd_JArrayList_add_6 rfl ?_
  have hA0 := hA
  refine gy_putf gd_JArrayList_add_7 gf_JArrayList_63 gc_7 gr_JArrayList_add_7_2 hA gz_fits.i (fun M hA hNa => ?_)
  replace hB := (hNa bb hba).trans hB
  replace hx := (hNa x hxa).trans hx
  replace hfr := (hNa n (Ne.symm han)).trans hfr
  refine gz_aload_n gd_JArrayList_add_10 rfl rfl (gz_isr.r _) ?_
  refine gz_aload_n gd_JArrayList_add_11 rfl rfl (gz_isr.r _) ?_
  refine gz_aload_n gd_JArrayList_add_12 rfl rfl (gz_isr.r _) ?_
  refine gz_getf gd_JArrayList_add_13 gf_JArrayList_9 hA rfl ?_
  refine gz_aload_n gd_JArrayList_add_16 rfl rfl (gz_isr.r _) ?_
  refine gz_getf gd_JArrayList_add_17 gf_JArrayList_48 hA rfl ?_
  refine gz_virtual3 gd_JArrayList_add_20 hA rfl rfl gs_JArrayList_add_20 (Nat.le_of_ble_eq_true rfl) (Nat.le_of_ble_eq_true rfl) ?_
  refine j_add3 hA hB (fun i hi => ?_) hx hci hsc hb1 hcap hfr hroom (fun hlt M mc2 hA hB hN => ?_) (fun heq M mc2 f hA hX hY hZ hN => ?_)
  ·
    obtain ⟨q, ci2, fs, e1, e2, e3⟩ := hel i hi
    exact ⟨q, ci2, fs, e1, (hNa q (fun e => by rw [e, hA0] at e2; cases e2; omega)).trans e2, e3⟩
  ·
    refine gz_iconst (v := 1) gd_JArrayList_add_23 (by decide) ?_
    refine gz_ireturn gd_JArrayList_add_24 rfl rfl ?_
    exact k1 hlt _ _ hA hB (fun j h1 h2 => (hN j h1 h2).trans (hNa j h1))
  ·
    refine gz_iconst (v := 1) gd_JArrayList_add_23 (by decide) ?_
    refine gz_ireturn gd_JArrayList_add_24 rfl rfl ?_
    exact k2 heq _ _ _ hA hX hY hZ (fun j h1 h2 => (hN j h1 h2).trans (hNa j h1))

theorem j_fastRemove {l : Launch} {D : gzD} {K : gzK} {M : gzM} {n nc ns : Nat} {a bb s cap : Nat} {el : Nat → Value} {mc : Int32} (hA : M a = some (.inr (7, [.ref bb, .int (nI s), .int mc]))) (hB : M bb = some (.inl (7, cap, el))) {i : Nat} (hi : i < s) (hsc : s ≤ cap) (hcap : cap ≤ 20000) (hel : ∀ i, i < s → ∃ (q ci : Nat) (fs : List Value), el i = .ref q ∧ M q = some (.inr (ci, fs)) ∧ (ci = 1 ∨ ci = 2)) (k : ∀ M' mc' f', M' a = some (.inr (7, [.ref bb, .int (nI (s - 1)), .int mc'])) → M' bb = some (.inl (7, cap, f')) → (∀ q, q < s - 1 → f' q = if q < i then el q else el (q + 1)) → (∀ j, j ≠ a → j ≠ bb → M' j = M j) → K (.inl none) M' n nc ns) : GZ l P1 D F_JArrayList_fastRemove K 0 [some (.ref a), some (.ref bb), some (.int (nI i)), none] [] M n nc ns := by
  have hba : bb ≠ a := fun e => by rw [e, hA] at hB; cases hB
  refine gz_aload_n gd_JArrayList_fastRemove_0 rfl rfl (gz_isr.r _) ?_
  refine gz_dup gd_JArrayList_fastRemove_1 rfl ?_
  refine gz_getf gd_JArrayList_fastRemove_2 gf_JArrayList_63 hA rfl ?_
  refine gz_iconst (v := 1) gd_JArrayList_fastRemove_5 (by decide) ?_
  refine gq_iadd (z := (mc + 1)) gd_JArrayList_fastRemove_6 rfl ?_
  have hA0 := hA
  refine gy_putf gd_JArrayList_fastRemove_7 gf_JArrayList_63 gc_7 gr_JArrayList_fastRemove_7_2 hA gz_fits.i (fun M1 hA hNa => ?_)
  replace hB := (hNa bb hba).trans hB
  refine gz_aload_n gd_JArrayList_fastRemove_10 rfl rfl (gz_isr.r _) ?_
  refine gz_getf gd_JArrayList_fastRemove_11 gf_JArrayList_48 hA rfl ?_
  refine gz_iconst (v := 1) gd_JArrayList_fastRemove_14 (by decide) ?_
  refine gq_isub (z := nI (s - 1)) gd_JArrayList_fastRemove_15 (nI_s1 (by omega)) ?_
  refine gz_dup gd_JArrayList_fastRemove_16 rfl ?_
  refine gz_istore_n gd_JArrayList_fastRemove_17 rfl (Nat.le_of_ble_eq_true rfl) rfl ?_
  refine gz_iload_n gd_JArrayList_fastRemove_18 rfl rfl ?_
  refine gz_icmp_le (tgt := 34) gd_JArrayList_fastRemove_19 (by decide) (fun h19 => ?_) (fun h19 => ?_)
  ·
    replace h19 := (nI_leI (a := s - 1) (b := i) (by omega) (by omega)).1 h19
    obtain ⟨f1, hf1⟩ : ∃ f1, f1 = el := ⟨_, rfl⟩
    rw [← hf1] at hB
    have hfx : ∀ q, q < s - 1 → f1 q = if q < i then el q else el (q + 1) := fun q hq => by rw [hf1, if_pos (by omega)]
    have hNc : ∀ j, j ≠ bb → M1 j = M1 j := fun j _ => rfl
    refine gz_aload_n gd_JArrayList_fastRemove_34 rfl rfl (gz_isr.r _) ?_
    refine gz_aload_n gd_JArrayList_fastRemove_35 rfl rfl (gz_isr.r _) ?_
    refine gz_iload_n gd_JArrayList_fastRemove_36 rfl rfl ?_
    refine gz_dup_x1 gd_JArrayList_fastRemove_37 rfl rfl ?_
    refine gy_putf gd_JArrayList_fastRemove_38 gf_JArrayList_48 gc_7 gr_JArrayList_fastRemove_7_1 hA gz_fits.i (fun M3 hA hNe => ?_)
    replace hB := (hNe bb hba).trans hB
    refine gz_null gd_JArrayList_fastRemove_41 ?_
    refine gy_aastoreN (kd := 7) (i := s - 1) gd_JArrayList_fastRemove_42 rfl hB rfl (by omega) (by omega) (by decide) (fun M4 hB hNd => ?_)
    replace hA := (hNd a (Ne.symm hba)).trans hA
    refine gz_return gd_JArrayList_fastRemove_43 rfl ?_
    exact k _ _ _ hA hB (fun q hq => by
      simp only [updV, if_neg (show ¬ q = s - 1 by omega)]
      exact hfx q hq) (fun j h1 h2 => (hNd j h2).trans ((hNe j h1).trans ((hNc j h2).trans (hNa j h1))))
  ·
    replace h19 := mt (nI_leI (a := s - 1) (b := i) (by omega) (by omega)).2 h19
    refine gz_aload_n gd_JArrayList_fastRemove_22 rfl rfl (gz_isr.r _) ?_
    refine gz_iload_n gd_JArrayList_fastRemove_23 rfl rfl ?_
    refine gz_iconst (v := 1) gd_JArrayList_fastRemove_24 (by decide) ?_
    refine gq_iadd (z := nI (i + 1)) gd_JArrayList_fastRemove_25 (nI_add i 1) ?_
    refine gz_aload_n gd_JArrayList_fastRemove_26 rfl rfl (gz_isr.r _) ?_
    refine gz_iload_n gd_JArrayList_fastRemove_27 rfl rfl ?_
    refine gz_iload_n gd_JArrayList_fastRemove_28 rfl rfl ?_
    refine gz_iload_n gd_JArrayList_fastRemove_29 rfl rfl ?_
    refine gq_isub (z := nI (s - 1 - i)) gd_JArrayList_fastRemove_30 (pk_sub (by omega)) ?_
    refine gz_arraycopy (kd := 7) (kd1 := 7) (sp := i + 1) (dp := i) (cn := s - 1 - i) gd_JArrayList_fastRemove_31 gw_591 gw_497 gw_496 gw_20 rfl rfl hB hB rfl rfl rfl (by omega) (by omega) (by omega) (by omega) (by omega) (by decide) (j_el hel (fun q ci fs h1 h2 => (hNa q (fun e => by rw [e, hA0] at h1; cases h1; omega)).trans h1) (by omega)) (by decide) (Nat.le_of_ble_eq_true rfl) ?_
    obtain ⟨f1, hf1⟩ : ∃ f1, va_cpy el el (i + 1) i (s - 1 - i) = f1 := ⟨_, rfl⟩
    rw [hf1]
    have hA1 : gz_up M1 bb (.inl (7, cap, f1)) a = _ := (gz_up_n (Ne.symm hba)).trans hA
    have hB1 : gz_up M1 bb (.inl (7, cap, f1)) bb = _ := gz_up_s
    have hNc : ∀ j, j ≠ bb → gz_up M1 bb (.inl (7, cap, f1)) j = M1 j := fun j hj => gz_up_n hj
    clear hA hB
    generalize gz_up M1 bb (.inl (7, cap, f1)) = M2 at hA1 hB1 hNc ⊢
    have hA := hA1
    have hB := hB1
    have hfx : ∀ q, q < s - 1 → f1 q = if q < i then el q else el (q + 1) := by
      intro q hq
      rw [← hf1]
      by_cases e : q < i
      · rw [if_pos e, va_cpy, if_neg (by omega)]
      · rw [if_neg e, va_cpy, if_pos (by omega), show i + 1 + (q - i) = q + 1 by omega]
    refine gz_aload_n gd_JArrayList_fastRemove_34 rfl rfl (gz_isr.r _) ?_
    refine gz_aload_n gd_JArrayList_fastRemove_35 rfl rfl (gz_isr.r _) ?_
    refine gz_iload_n gd_JArrayList_fastRemove_36 rfl rfl ?_
    refine gz_dup_x1 gd_JArrayList_fastRemove_37 rfl rfl ?_
    refine gy_putf gd_JArrayList_fastRemove_38 gf_JArrayList_48 gc_7 gr_JArrayList_fastRemove_7_1 hA gz_fits.i (fun M3 hA hNe => ?_)
    replace hB := (hNe bb hba).trans hB
    refine gz_null gd_JArrayList_fastRemove_41 ?_
    refine gy_aastoreN (kd := 7) (i := s - 1) gd_JArrayList_fastRemove_42 rfl hB rfl (by omega) (by omega) (by decide) (fun M4 hB hNd => ?_)
    replace hA := (hNd a (Ne.symm hba)).trans hA
    refine gz_return gd_JArrayList_fastRemove_43 rfl ?_
    exact k _ _ _ hA hB (fun q hq => by
      simp only [updV, if_neg (show ¬ q = s - 1 by omega)]
      exact hfx q hq) (fun j h1 h2 => (hNd j h2).trans ((hNe j h1).trans ((hNc j h2).trans (hNa j h1))))

theorem j_remove {l : Launch} {D : gzD} {K : gzK} {M : gzM} {n nc ns : Nat} {a bb s cap : Nat} {el : Nat → Value} {mc : Int32} (hA : M a = some (.inr (7, [.ref bb, .int (nI s), .int mc]))) (hB : M bb = some (.inl (7, cap, el))) {i : Nat} (hi : i < s) (hsc : s ≤ cap) (hcap : cap ≤ 20000) (hel : ∀ i, i < s → ∃ (q ci : Nat) (fs : List Value), el i = .ref q ∧ M q = some (.inr (ci, fs)) ∧ (ci = 1 ∨ ci = 2)) (k : ∀ M' mc' f', M' a = some (.inr (7, [.ref bb, .int (nI (s - 1)), .int mc'])) → M' bb = some (.inl (7, cap, f')) → (∀ q, q < s - 1 → f' q = if q < i then el q else el (q + 1)) → (∀ j, j ≠ a → j ≠ bb → M' j = M j) → K (.inl (some (el i))) M' n nc ns) : GZ l P1 D F_JArrayList_remove K 0 [some (.ref a), some (.int (nI i)), none, none] [] M n nc ns := by
  have hba : bb ≠ a := fun e => by rw [e, hA] at hB; cases hB
  obtain ⟨kk, ci0, fs0, he, -, -⟩ := hel i hi
  refine gz_iload_n gd_JArrayList_remove_0 rfl rfl ?_
  refine gz_aload_n gd_JArrayList_remove_1 rfl rfl (gz_isr.r _) ?_
  refine gz_getf gd_JArrayList_remove_2 gf_JArrayList_48 hA rfl ?_
  refine gz_static2 gd_JArrayList_remove_5 gs_JArrayList_remove_5 (Nat.le_of_ble_eq_true rfl) (Nat.le_of_ble_eq_true rfl) ?_
  refine j_check (by omega) (by omega) ?_
  refine gz_pop gd_JArrayList_remove_8 rfl ?_
  refine gz_aload_n gd_JArrayList_remove_9 rfl rfl (gz_isr.r _) ?_
  refine gz_getf gd_JArrayList_remove_10 gf_JArrayList_9 hA rfl ?_
  refine gz_astore_n gd_JArrayList_remove_13 rfl (Nat.le_of_ble_eq_true rfl) rfl (gz_isr.r _) ?_
  refine gz_aload_n gd_JArrayList_remove_14 rfl rfl (gz_isr.r _) ?_
  refine gz_iload_n gd_JArrayList_remove_15 rfl rfl ?_
  refine gz_aaload gd_JArrayList_remove_16 rfl hB rfl (by omega) (by omega) he ?_
  refine gz_astore_n gd_JArrayList_remove_17 rfl (Nat.le_of_ble_eq_true rfl) rfl (gz_isr.r _) ?_
  refine gz_aload_n gd_JArrayList_remove_18 rfl rfl (gz_isr.r _) ?_
  refine gz_aload_n gd_JArrayList_remove_19 rfl rfl (gz_isr.r _) ?_
  refine gz_iload_n gd_JArrayList_remove_20 rfl rfl ?_
  refine gz_virtual2 gd_JArrayList_remove_21 hA rfl rfl gs_JArrayList_remove_21 (Nat.le_of_ble_eq_true rfl) (Nat.le_of_ble_eq_true rfl) ?_
  refine j_fastRemove hA hB hi hsc hcap hel (fun M mc2 f hA hB hf hN => ?_)
  refine gz_aload_n gd_JArrayList_remove_24 rfl rfl (gz_isr.r _) ?_
  refine gz_areturn gd_JArrayList_remove_25 rfl (Or.inl ⟨_, rfl⟩) (gz_isr.r _) ?_
  rw [he] at k
  exact k _ _ _ hA hB hf hN

theorem j_clear {l : Launch} {D : gzD} {K : gzK} {M : gzM} {n nc ns : Nat} {a bb s cap : Nat} {el : Nat → Value} {mc : Int32} (hA : M a = some (.inr (7, [.ref bb, .int (nI s), .int mc]))) (hB : M bb = some (.inl (7, cap, el))) (hsc : s ≤ cap) (hcap : cap ≤ 20000) (k : ∀ M' mc' f', M' a = some (.inr (7, [.ref bb, .int (nI 0), .int mc'])) → M' bb = some (.inl (7, cap, f')) → (s = 0 → M' bb = M bb) → (∀ j, j ≠ a → j ≠ bb → M' j = M j) → K (.inl none) M' n nc ns) : GZ l P1 D F_JArrayList_clear K 0 [some (.ref a), none, none, none] [] M n nc ns := by
  have hba : bb ≠ a := fun e => by rw [e, hA] at hB; cases hB
  obtain ⟨Mz, hMz⟩ : ∃ Mz, Mz = M := ⟨_, rfl⟩
  have hBz := hB
  rw [← hMz] at k hBz
  refine gz_aload_n gd_JArrayList_clear_0 rfl rfl (gz_isr.r _) ?_
  refine gz_dup gd_JArrayList_clear_1 rfl ?_
  refine gz_getf gd_JArrayList_clear_2 gf_JArrayList_63 hA rfl ?_
  refine gz_iconst (v := 1) gd_JArrayList_clear_5 (by decide) ?_
  refine gq_iadd (z := (mc + 1)) gd_JArrayList_clear_6 rfl ?_
  refine gy_putf gd_JArrayList_clear_7 gf_JArrayList_63 gc_7 gr_JArrayList_clear_7_2 hA gz_fits.i (fun M1 hA hNa => ?_)
  replace hB := (hNa bb hba).trans hB
  refine gz_aload_n gd_JArrayList_clear_10 rfl rfl (gz_isr.r _) ?_
  refine gz_getf gd_JArrayList_clear_11 gf_JArrayList_9 hA rfl ?_
  refine gz_astore_n gd_JArrayList_clear_14 rfl (Nat.le_of_ble_eq_true rfl) rfl (gz_isr.r _) ?_
  refine gz_aload_n gd_JArrayList_clear_15 rfl rfl (gz_isr.r _) ?_
  refine gz_getf gd_JArrayList_clear_16 gf_JArrayList_48 hA rfl ?_
  refine gz_istore_n gd_JArrayList_clear_19 rfl (Nat.le_of_ble_eq_true rfl) rfl ?_
  refine gz_aload_n gd_JArrayList_clear_20 rfl rfl (gz_isr.r _) ?_
  refine gz_iconst (v := 0) gd_JArrayList_clear_21 (by decide) ?_
  refine gz_dup_x1 gd_JArrayList_clear_22 rfl rfl ?_
  refine gy_putf gd_JArrayList_clear_23 gf_JArrayList_48 gc_7 gr_JArrayList_clear_7_1 hA gz_fits.i (fun M1 hA hNe => ?_)
  replace hB := (hNe bb hba).trans hB
  refine gz_istore_n gd_JArrayList_clear_26 rfl (Nat.le_of_ble_eq_true rfl) rfl ?_
  have loop : ∀ (j i : Nat), i + j = s → ∀ (M1 : gzM) (f : Nat → Value) (mc1 : Int32), M1 a = some (.inr (7, [.ref bb, .int (nI 0), .int mc1])) → M1 bb = some (.inl (7, cap, f)) → (s = 0 → M1 bb = Mz bb) → (∀ j, j ≠ a → j ≠ bb → M1 j = Mz j) → GZ l P1 D F_JArrayList_clear K 27 [some (.ref a), some (.ref bb), some (.int (nI s)), some (.int (nI i))] [] M1 n nc ns := by
    intro j
    induction j with
    | zero =>
      intro i hi M1 f mc1 hA hB h0 hF
      refine gz_iload_n gd_JArrayList_clear_27 rfl rfl ?_
      refine gz_iload_n gd_JArrayList_clear_28 rfl rfl ?_
      refine gz_icmp_ge (tgt := 42) gd_JArrayList_clear_29 (by decide) (fun h29 => ?_) (fun h29 => ?_)
      ·
        replace h29 := (nI_leI (a := s) (b := i) (by omega) (by omega)).1 h29
        refine gz_return gd_JArrayList_clear_42 rfl ?_
        exact k _ _ _ hA hB h0 hF
      ·
        replace h29 := mt (nI_leI (a := s) (b := i) (by omega) (by omega)).2 h29
        omega
    | succ j ih =>
      intro i hi M1 f mc1 hA hB h0 hF
      refine gz_iload_n gd_JArrayList_clear_27 rfl rfl ?_
      refine gz_iload_n gd_JArrayList_clear_28 rfl rfl ?_
      refine gz_icmp_ge (tgt := 42) gd_JArrayList_clear_29 (by decide) (fun h29 => ?_) (fun h29 => ?_)
      ·
        replace h29 := (nI_leI (a := s) (b := i) (by omega) (by omega)).1 h29
        omega
      ·
        replace h29 := mt (nI_leI (a := s) (b := i) (by omega) (by omega)).2 h29
        refine gz_aload_n gd_JArrayList_clear_32 rfl rfl (gz_isr.r _) ?_
        refine gz_iload_n gd_JArrayList_clear_33 rfl rfl ?_
        refine gz_null gd_JArrayList_clear_34 ?_
        refine gy_aastoreN (kd := 7) (i := i) gd_JArrayList_clear_35 rfl hB rfl (by omega) (by omega) (by decide) (fun M2 hB hNd => ?_)
        replace hA := (hNd a (Ne.symm hba)).trans hA
        refine gz_iinc (v := nI (i + 1)) gd_JArrayList_clear_36 rfl (nI_1 i) (Nat.le_of_ble_eq_true rfl) rfl ?_
        refine gz_goto (tgt := 27) gd_JArrayList_clear_39 (by decide) ?_
        exact ih (i + 1) (by omega) _ _ _ hA hB (fun e => by omega) (fun j h1 h2 => (hNd j h2).trans (hF j h1 h2))
  exact loop s 0 (by omega) _ _ _ hA hB (fun _ => hB.trans hBz.symm) (fun j h1 h2 => (hNe j h1).trans ((hNa j h1).trans (by rw [hMz])))

