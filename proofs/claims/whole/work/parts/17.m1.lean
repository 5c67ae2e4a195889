/-! The reference: small methods. Printed by wip/whole/m1.py -/
theorem m_in {l : Launch} {D : gzD} {K : gzK} {M : gzM} {n nc ns : Nat} {x lo hi : Int32} (k1 : ¬ x < lo → ¬ hi < x → K (.inl (some (.int 1))) M n nc ns) (k0 : x < lo ∨ hi < x → K (.inl (some (.int 0))) M n nc ns) : GZ l P1 D F_M_in K 0 [some (.int x), some (.int lo), some (.int hi)] [] M n nc ns := by
  refine gz_iload_n gd_M_in_0 rfl rfl ?_
  refine gz_iload_n gd_M_in_1 rfl rfl ?_
  refine gz_icmp_lt (tgt := 14) gd_M_in_2 (by decide) (fun h2 => ?_) (fun h2 => ?_)
  ·
    refine gz_iconst (v := 0) gd_M_in_14 (by decide) ?_
    refine gz_ireturn gd_M_in_15 rfl rfl ?_
    exact k0 (Or.inl h2)
  ·
    refine gz_iload_n gd_M_in_5 rfl rfl ?_
    refine gz_iload_n gd_M_in_6 rfl rfl ?_
    refine gz_icmp_gt (tgt := 14) gd_M_in_7 (by decide) (fun h7 => ?_) (fun h7 => ?_)
    ·
      refine gz_iconst (v := 0) gd_M_in_14 (by decide) ?_
      refine gz_ireturn gd_M_in_15 rfl rfl ?_
      exact k0 (Or.inr h7)
    ·
      refine gz_iconst (v := 1) gd_M_in_10 (by decide) ?_
      refine gz_goto (tgt := 15) gd_M_in_11 (by decide) ?_
      refine gz_ireturn gd_M_in_15 rfl rfl ?_
      exact k1 h2 h7

theorem m_isOffice {l : Launch} {D : gzD} {K : gzK} {M : gzM} {n nc ns : Nat} {x : Int32} (k1 : ¬ x < 0 → ¬ 11 < x → K (.inl (some (.int 1))) M n nc ns) (k0 : x < 0 ∨ 11 < x → K (.inl (some (.int 0))) M n nc ns) : GZ l P1 D F_M_isOffice K 0 [some (.int x)] [] M n nc ns := by
  refine gz_iload_n gd_M_isOffice_0 rfl rfl ?_
  refine gz_iconst (v := 0) gd_M_isOffice_1 (by decide) ?_
  refine gz_bipush (v := 11) gd_M_isOffice_2 (by decide) ?_
  refine gz_static3 gd_M_isOffice_4 gs_M_isOffice_4 (Nat.le_of_ble_eq_true rfl) (Nat.le_of_ble_eq_true rfl) ?_
  refine m_in (fun ha hb => ?_) (fun ha => ?_)
  ·
    refine gz_ireturn gd_M_isOffice_7 rfl rfl ?_
    exact k1 ha hb
  ·
    refine gz_ireturn gd_M_isOffice_7 rfl rfl ?_
    exact k0 ha

theorem m_isPlace {l : Launch} {D : gzD} {K : gzK} {M : gzM} {n nc ns : Nat} {x : Int32} (k1 : ¬ x < 0 → ¬ 39 < x → K (.inl (some (.int 1))) M n nc ns) (k0 : x < 0 ∨ 39 < x → K (.inl (some (.int 0))) M n nc ns) : GZ l P1 D F_M_isPlace K 0 [some (.int x)] [] M n nc ns := by
  refine gz_iload_n gd_M_isPlace_0 rfl rfl ?_
  refine gz_iconst (v := 0) gd_M_isPlace_1 (by decide) ?_
  refine gz_bipush (v := 39) gd_M_isPlace_2 (by decide) ?_
  refine gz_static3 gd_M_isPlace_4 gs_M_isPlace_4 (Nat.le_of_ble_eq_true rfl) (Nat.le_of_ble_eq_true rfl) ?_
  refine m_in (fun ha hb => ?_) (fun ha => ?_)
  ·
    refine gz_ireturn gd_M_isPlace_7 rfl rfl ?_
    exact k1 ha hb
  ·
    refine gz_ireturn gd_M_isPlace_7 rfl rfl ?_
    exact k0 ha

theorem m_thrown {l : Launch} {D : gzD} {K : gzK} {M : gzM} {n nc ns : Nat} {M0 : gzM} {S : gS} {L : gL} (hR : RF M0 S L M) (k : K (.inl (some (.int (S 83 0)))) M n nc ns) : GZ l P1 D F_M_thrown K 0 [some (.ref 83)] [] M n nc ns := by
  refine gz_aload_n gd_M_thrown_0 rfl rfl (gz_isr.r _) ?_
  refine md_getf gd_M_thrown_1 gf_M_100 hR rfl ?_
  refine gz_ireturn gd_M_thrown_4 rfl rfl ?_
  exact k

theorem m_letters {l : Launch} {D : gzD} {K : gzK} {M : gzM} {n nc ns : Nat} {M0 : gzM} {S : gS} {L : gL} (hR : RF M0 S L M) (k : ∀ M, RF M0 (gs_set S 83 0 0) L M → K (.inl (some (.int (S 83 23)))) M n nc ns) : GZ l P1 D F_M_letters K 0 [some (.ref 83)] [] M n nc ns := by
  refine gz_aload_n gd_M_letters_0 rfl rfl (gz_isr.r _) ?_
  refine gz_iconst (v := 0) gd_M_letters_1 (by decide) ?_
  refine md_putf gd_M_letters_2 gf_M_100 gr_M_letters_6_0 hR rfl (fun M hR => ?_)
  refine gz_aload_n gd_M_letters_5 rfl rfl (gz_isr.r _) ?_
  refine md_getf gd_M_letters_6 gf_M_112 hR rfl ?_
  refine gz_ireturn gd_M_letters_9 rfl rfl ?_
  exact k _ hR

theorem m_astray {l : Launch} {D : gzD} {K : gzK} {M : gzM} {n nc ns : Nat} {M0 : gzM} {S : gS} {L : gL} (hR : RF M0 S L M) (k : ∀ M, RF M0 (gs_set S 83 0 0) L M → K (.inl (some (.int 0))) M n nc ns) : GZ l P1 D F_M_astray K 0 [some (.ref 83)] [] M n nc ns := by
  refine gz_aload_n gd_M_astray_0 rfl rfl (gz_isr.r _) ?_
  refine gz_iconst (v := 0) gd_M_astray_1 (by decide) ?_
  refine md_putf gd_M_astray_2 gf_M_100 gr_M_astray_6_0 hR rfl (fun M hR => ?_)
  refine gz_iconst (v := 0) gd_M_astray_5 (by decide) ?_
  refine gz_ireturn gd_M_astray_6 rfl rfl ?_
  exact k _ hR
