/-! The class: its constructors. Printed by wip/whole/h16.py -/
theorem gy_newarray {l : Launch} {D : gzD} {F : gzF} {K : gzK} {pc : Nat} {gl : List (Option Value)} {gst : List Value} {M : gzM} {n nc ns : Nat} {at0 : ArrayType} {kd N : Nat} {x : Int32} {ty : FieldType} (hd : decode F.2.1 pc = .ok (.newarray at0, 2)) (hty : newarray.typeOf at0 = ty) (hk : P1.2.2.1[kd]? = some ty) (hw : Cond.arrayClass ty ∈ P1.1) (hx : x = nI N) (hN : N * componentBytes ty ≤ 536870912) (hN2 : N < 2 ^ 31) (hnc : nc + 1 ≤ D.2.2.2.1) (hns : ns + N ≤ D.2.2.2.2.1)
    (k : ∀ M', M' n = some (.inl (kd, N, fun _ => defaultValue ty)) → (∀ j, j ≠ n → M' j = M j) → GZ l P1 D F K (pc + 2) gl (.ref n :: gst) M' (n + 1) (nc + 1) (ns + N)) (hk0 : kd ≠ 0 := by decide) : GZ l P1 D F K pc gl (.int x :: gst) M n nc ns := gz_newarray hd hty hk hw hx hN hN2 hnc hns (k _ gz_up_s (fun _ h => gz_up_n h)) hk0
theorem gy_newS {l : Launch} {D : gzD} {F : gzF} {K : gzK} {pc : Nat} {gl : List (Option Value)} {gst : List Value} {M : gzM} {n nc ns : Nat} {idx ci sz : Nat} {ty : Nat → FieldType} {fs : List Value} (hd : decode F.2.1 pc = .ok (.new idx, 3)) (hw : gz_nw P1 F idx ci ty fs) (hz : fs.length = sz) (hnc : nc + 1 ≤ D.2.2.2.1) (hns : ns + sz ≤ D.2.2.2.2.1)
    (k : ∀ M', M' n = some (.inr (ci, fs)) → (∀ j, j ≠ n → M' j = M j) → GZ l P1 D F K (pc + 3) gl (.ref n :: gst) M' (n + 1) (nc + 1) (ns + sz)) : GZ l P1 D F K pc gl gst M n nc ns := by
  subst hz
  exact gy_new hd hw hnc hns k
theorem o_init {l : Launch} {D : gzD} {K : gzK} {M : gzM} {n nc ns : Nat} {a : Nat} {x : Int32} (hA : M a = some (.inr (3, [.int 0, .null, .null, .null, .null, .null, .int 0, .int 0, .int 0, .int 0]))) (han : a < n) (hfr : ∀ j, n ≤ j → M j = none) (hnc : nc + 5 ≤ D.2.2.2.1) (hns : ns + 126 ≤ D.2.2.2.2.1) (k : ∀ M' f, M' a = some (.inr (3, [.int x, .ref n, .ref (n + 1), .ref (n + 2), .ref (n + 3), .ref (n + 4), .int (-1), .int 0, .int 0, .int 1])) → M' n = some (.inl (4, 40, fun _ => .null)) → M' (n + 1) = some (.inl (1, 40, f)) → (∀ q, q < 40 → f q = .int (-1)) → M' (n + 2) = some (.inl (3, 40, fun _ => .int 0)) → M' (n + 3) = some (.inr (7, [.ref 1, .int 0, .int 0])) → M' (n + 4) = some (.inr (7, [.ref 1, .int 0, .int 0])) → (∀ j, j ≠ a → j < n → M' j = M j) → (∀ j, n + 5 ≤ j → M' j = none) → K (.inl none) M' (n + 5) (nc + 5) (ns + 126)) : GZ l P1 D F_O_init K 0 [some (.ref a), some (.int x)] [] M n nc ns := by
  have hF : ∀ j, j ≠ a → j < n → M j = M j := fun j _ _ => rfl
  have hG := hfr
  refine gz_aload_n gd_O_init_0 rfl rfl (gz_isr.r _) ?_
  refine gz_objInit gd_O_init_1 gw_66 gw_30 gw_31 (by decide) (Nat.le_of_ble_eq_true rfl) ?_
  refine gz_aload_n gd_O_init_4 rfl rfl (gz_isr.r _) ?_
  refine gz_bipush (v := 40) gd_O_init_5 (by decide) ?_
  refine gy_anewarray (kd := 4) (N := 40) gd_O_init_7 rfl gw_67 gw_68 rfl (by decide) (by omega) (by omega) (fun M hc0 hN => ?_)
  replace hA := (hN _ (by omega)).trans hA
  replace hF := fun j (h1 : j ≠ a) (h2 : j < n) => (hN j (by omega)).trans (hF j h1 h2)
  replace hG := fun j (h1 : n + 1 ≤ j) => (hN j (by omega)).trans (hG j (by omega))
  refine gy_putf gd_O_init_10 gf_O_11 gc_3 gr_O_init_3_1 hA (gz_fits.a (gz_isr.r _)) (fun M hA hN => ?_)
  replace hc0 := (hN _ (by omega)).trans hc0
  replace hF := fun j (h1 : j ≠ a) (h2 : j < n) => (hN j h1).trans (hF j h1 h2)
  replace hG := fun j (h1 : n + 1 ≤ j) => (hN j (by omega)).trans (hG j h1)
  refine gz_aload_n gd_O_init_13 rfl rfl (gz_isr.r _) ?_
  refine gz_bipush (v := 40) gd_O_init_14 (by decide) ?_
  refine gy_newarray (kd := 1) (N := 40) gd_O_init_16 rfl rfl gw_114 rfl (by decide) (by decide) (by omega) (by omega) (fun M hc1 hN => ?_)
  replace hA := (hN _ (by omega)).trans hA
  replace hc0 := (hN _ (by omega)).trans hc0
  replace hF := fun j (h1 : j ≠ a) (h2 : j < n) => (hN j (by omega)).trans (hF j h1 h2)
  replace hG := fun j (h1 : n + 1 + 1 ≤ j) => (hN j (by omega)).trans (hG j (by omega))
  refine gy_putf gd_O_init_18 gf_O_17 gc_3 gr_O_init_3_2 hA (gz_fits.a (gz_isr.r _)) (fun M hA hN => ?_)
  replace hc0 := (hN _ (by omega)).trans hc0
  replace hc1 := (hN _ (by omega)).trans hc1
  replace hF := fun j (h1 : j ≠ a) (h2 : j < n) => (hN j h1).trans (hF j h1 h2)
  replace hG := fun j (h1 : n + 1 + 1 ≤ j) => (hN j (by omega)).trans (hG j h1)
  refine gz_aload_n gd_O_init_21 rfl rfl (gz_isr.r _) ?_
  refine gz_bipush (v := 40) gd_O_init_22 (by decide) ?_
  refine gy_newarray (kd := 3) (N := 40) gd_O_init_24 rfl rfl gw_116 rfl (by decide) (by decide) (by omega) (by omega) (fun M hc2 hN => ?_)
  replace hA := (hN _ (by omega)).trans hA
  replace hc0 := (hN _ (by omega)).trans hc0
  replace hc1 := (hN _ (by omega)).trans hc1
  replace hF := fun j (h1 : j ≠ a) (h2 : j < n) => (hN j (by omega)).trans (hF j h1 h2)
  replace hG := fun j (h1 : n + 1 + 1 + 1 ≤ j) => (hN j (by omega)).trans (hG j (by omega))
  refine gy_putf gd_O_init_26 gf_O_21 gc_3 gr_O_init_3_3 hA (gz_fits.a (gz_isr.r _)) (fun M hA hN => ?_)
  replace hc0 := (hN _ (by omega)).trans hc0
  replace hc1 := (hN _ (by omega)).trans hc1
  replace hc2 := (hN _ (by omega)).trans hc2
  replace hF := fun j (h1 : j ≠ a) (h2 : j < n) => (hN j h1).trans (hF j h1 h2)
  replace hG := fun j (h1 : n + 1 + 1 + 1 ≤ j) => (hN j (by omega)).trans (hG j h1)
  refine gz_aload_n gd_O_init_29 rfl rfl (gz_isr.r _) ?_
  refine gy_newS (sz := 3) gd_O_init_30 gn_O_init_30 rfl (by omega) (by omega) (fun M hc3 hN => ?_)
  replace hA := (hN _ (by omega)).trans hA
  replace hc0 := (hN _ (by omega)).trans hc0
  replace hc1 := (hN _ (by omega)).trans hc1
  replace hc2 := (hN _ (by omega)).trans hc2
  replace hF := fun j (h1 : j ≠ a) (h2 : j < n) => (hN j (by omega)).trans (hF j h1 h2)
  replace hG := fun j (h1 : n + 1 + 1 + 1 + 1 ≤ j) => (hN j (by omega)).trans (hG j (by omega))
  refine gz_dup gd_O_init_33 rfl ?_
  refine gz_special0 gd_O_init_34 gs_O_init_34 (Nat.le_of_ble_eq_true rfl) (Nat.le_of_ble_eq_true rfl) ?_
  refine j_init hc3 (fun M hc3 hN => ?_)
  replace hA := (hN _ (by omega)).trans hA
  replace hc0 := (hN _ (by omega)).trans hc0
  replace hc1 := (hN _ (by omega)).trans hc1
  replace hc2 := (hN _ (by omega)).trans hc2
  replace hF := fun j (h1 : j ≠ a) (h2 : j < n) => (hN j (by omega)).trans (hF j h1 h2)
  replace hG := fun j (h1 : n + 1 + 1 + 1 + 1 ≤ j) => (hN j (by omega)).trans (hG j h1)
  skip
  refine gy_putf gd_O_init_37 gf_O_28 gc_3 gr_O_init_3_4 hA (gz_fits.o (gz_isr.r _)) (fun M hA hN => ?_)
  replace hc0 := (hN _ (by omega)).trans hc0
  replace hc1 := (hN _ (by omega)).trans hc1
  replace hc2 := (hN _ (by omega)).trans hc2
  replace hc3 := (hN _ (by omega)).trans hc3
  replace hF := fun j (h1 : j ≠ a) (h2 : j < n) => (hN j h1).trans (hF j h1 h2)
  replace hG := fun j (h1 : n + 1 + 1 + 1 + 1 ≤ j) => (hN j (by omega)).trans (hG j h1)
  refine gz_aload_n gd_O_init_40 rfl rfl (gz_isr.r _) ?_
  refine gy_newS (sz := 3) gd_O_init_41 gn_O_init_41 rfl (by omega) (by omega) (fun M hc4 hN => ?_)
  replace hA := (hN _ (by omega)).trans hA
  replace hc0 := (hN _ (by omega)).trans hc0
  replace hc1 := (hN _ (by omega)).trans hc1
  replace hc2 := (hN _ (by omega)).trans hc2
  replace hc3 := (hN _ (by omega)).trans hc3
  replace hF := fun j (h1 : j ≠ a) (h2 : j < n) => (hN j (by omega)).trans (hF j h1 h2)
  replace hG := fun j (h1 : n + 1 + 1 + 1 + 1 + 1 ≤ j) => (hN j (by omega)).trans (hG j (by omega))
  refine gz_dup gd_O_init_44 rfl ?_
  refine gz_special0 gd_O_init_45 gs_O_init_45 (Nat.le_of_ble_eq_true rfl) (Nat.le_of_ble_eq_true rfl) ?_
  refine j_init hc4 (fun M hc4 hN => ?_)
  replace hA := (hN _ (by omega)).trans hA
  replace hc0 := (hN _ (by omega)).trans hc0
  replace hc1 := (hN _ (by omega)).trans hc1
  replace hc2 := (hN _ (by omega)).trans hc2
  replace hc3 := (hN _ (by omega)).trans hc3
  replace hF := fun j (h1 : j ≠ a) (h2 : j < n) => (hN j (by omega)).trans (hF j h1 h2)
  replace hG := fun j (h1 : n + 1 + 1 + 1 + 1 + 1 ≤ j) => (hN j (by omega)).trans (hG j h1)
  skip
  refine gy_putf gd_O_init_48 gf_O_32 gc_3 gr_O_init_3_5 hA (gz_fits.o (gz_isr.r _)) (fun M hA hN => ?_)
  replace hc0 := (hN _ (by omega)).trans hc0
  replace hc1 := (hN _ (by omega)).trans hc1
  replace hc2 := (hN _ (by omega)).trans hc2
  replace hc3 := (hN _ (by omega)).trans hc3
  replace hc4 := (hN _ (by omega)).trans hc4
  replace hF := fun j (h1 : j ≠ a) (h2 : j < n) => (hN j h1).trans (hF j h1 h2)
  replace hG := fun j (h1 : n + 1 + 1 + 1 + 1 + 1 ≤ j) => (hN j (by omega)).trans (hG j h1)
  refine gz_aload_n gd_O_init_51 rfl rfl (gz_isr.r _) ?_
  refine gz_iconst (v := -1) gd_O_init_52 (by decide) ?_
  refine gy_putf gd_O_init_53 gf_O_35 gc_3 gr_O_init_3_6 hA (gz_fits.i) (fun M hA hN => ?_)
  replace hc0 := (hN _ (by omega)).trans hc0
  replace hc1 := (hN _ (by omega)).trans hc1
  replace hc2 := (hN _ (by omega)).trans hc2
  replace hc3 := (hN _ (by omega)).trans hc3
  replace hc4 := (hN _ (by omega)).trans hc4
  replace hF := fun j (h1 : j ≠ a) (h2 : j < n) => (hN j h1).trans (hF j h1 h2)
  replace hG := fun j (h1 : n + 1 + 1 + 1 + 1 + 1 ≤ j) => (hN j (by omega)).trans (hG j h1)
  refine gz_aload_n gd_O_init_56 rfl rfl (gz_isr.r _) ?_
  refine gz_iconst (v := 1) gd_O_init_57 (by decide) ?_
  refine gy_putf gd_O_init_58 gf_O_39 gc_3 gr_O_init_3_9 hA (gz_fits.z1) (fun M hA hN => ?_)
  replace hc0 := (hN _ (by omega)).trans hc0
  replace hc1 := (hN _ (by omega)).trans hc1
  replace hc2 := (hN _ (by omega)).trans hc2
  replace hc3 := (hN _ (by omega)).trans hc3
  replace hc4 := (hN _ (by omega)).trans hc4
  replace hF := fun j (h1 : j ≠ a) (h2 : j < n) => (hN j h1).trans (hF j h1 h2)
  replace hG := fun j (h1 : n + 1 + 1 + 1 + 1 + 1 ≤ j) => (hN j (by omega)).trans (hG j h1)
  refine gz_aload_n gd_O_init_61 rfl rfl (gz_isr.r _) ?_
  refine gz_iload_n gd_O_init_62 rfl rfl ?_
  refine gy_putf gd_O_init_63 gf_O_43 gc_3 gr_O_init_3_0 hA (gz_fits.i) (fun M hA hN => ?_)
  replace hc0 := (hN _ (by omega)).trans hc0
  replace hc1 := (hN _ (by omega)).trans hc1
  replace hc2 := (hN _ (by omega)).trans hc2
  replace hc3 := (hN _ (by omega)).trans hc3
  replace hc4 := (hN _ (by omega)).trans hc4
  replace hF := fun j (h1 : j ≠ a) (h2 : j < n) => (hN j h1).trans (hF j h1 h2)
  replace hG := fun j (h1 : n + 1 + 1 + 1 + 1 + 1 ≤ j) => (hN j (by omega)).trans (hG j h1)
  refine gz_aload_n gd_O_init_66 rfl rfl (gz_isr.r _) ?_
  refine gq_getf (y := .ref (n + 1)) gd_O_init_67 gf_O_17 hA rfl rfl ?_
  refine gz_iconst (v := -1) gd_O_init_70 (by decide) ?_
  refine gz_static2 gd_O_init_71 gs_O_init_71 (Nat.le_of_ble_eq_true rfl) (Nat.le_of_ble_eq_true rfl) ?_
  refine j_fill hc1 (by decide) (fun M fz hc1 hfz hN => ?_)
  replace hA := (hN _ (by omega)).trans hA
  replace hc0 := (hN _ (by omega)).trans hc0
  replace hc2 := (hN _ (by omega)).trans hc2
  replace hc3 := (hN _ (by omega)).trans hc3
  replace hc4 := (hN _ (by omega)).trans hc4
  replace hF := fun j (h1 : j ≠ a) (h2 : j < n) => (hN j (by omega)).trans (hF j h1 h2)
  replace hG := fun j (h1 : n + 1 + 1 + 1 + 1 + 1 ≤ j) => (hN j (by omega)).trans (hG j h1)
  skip
  refine gz_return gd_O_init_74 rfl ?_
  exact k _ fz hA hc0 hc1 hfz hc2 hc3 hc4 hF hG

