/-! The reference: version. Printed by wip/whole/m16.py -/
def y_offer (G : CT) (p : Nat) : CT := if G.up (G.home p) = true then y_own G (G.home p) p else G
def y_mark (r b : Int32) (f : Bool) (al : Int64) : Int32 := nI ((if b ≤ r then 0 else 1) + (if f = true then 2 else 0) + (if lg_cmp al b.toInt64 ≤ 0 then 0 else 4))
def y_v1 (G : CT) (p w : Nat) (v m : Int32) : CT := ((G.p_num w v).p_mark w m).p_last p w
theorem m_ver298 {l : Launch} {D : gzD} {K : gzK} {M : gzM} {n nc ns : Nat} {M0 : gzM} {S : gS} {L : gL} {G : CT} (hR : RF M0 S L M) (hT : Rel 12 true S G) {p : Nat} {v inv bal x5 x8 mk : Int32} {al : Int64} (hp : p < 40) (hI : JI G) (hP : pot G < 9000) (hV : 0 < G.last p) (k : ∀ S M, RF M0 S L M → Rel 12 true S (y_offer G p) → K (.inl (some (.int mk))) M n nc ns) : GZ l P1 D F_M_version K 298 [some (.ref 83), some (.int (nI p)), some (.int v), some (.int inv), some (.int bal), some (.int x5), some (.long al), none, some (.int x8), some (.int mk), none] [] M n nc ns := by
  have hB := hI.1
  have hh := hB.home p hp
  refine gz_aload_n gd_M_version_298 rfl rfl (gz_isr.r _) ?_
  refine md_getf gd_M_version_299 gf_M_35 hR rfl ?_
  refine gz_aload_n gd_M_version_302 rfl rfl (gz_isr.r _) ?_
  refine md_getf gd_M_version_303 gf_M_13 hR rfl ?_
  refine gz_iload_n gd_M_version_306 rfl rfl ?_
  refine mt_iaload (a := 85) (i := p) gd_M_version_307 hR rfl rfl (show _ < 40 from (by omega)) (hT.home p (by omega)) ?_
  refine mt_zaload (a := 92) (i := G.home p) gd_M_version_308 hR rfl rfl (show _ < 12 from (by omega)) (hT.up (G.home p) (by omega)) ?_
  refine gz_if_eq (tgt := 330) gd_M_version_309 (by decide) (fun h309 => ?_) (fun h309 => ?_)
  ·
    replace h309 := bI_0.1 h309
    refine gz_iconst (v := 0) gd_M_version_330 (by decide) ?_
    refine gz_istore gd_M_version_331 (Nat.le_of_ble_eq_true rfl) rfl ?_
    refine gz_iload gd_M_version_333 rfl ?_
    refine gz_ireturn gd_M_version_335 rfl rfl ?_
    exact k _ _ hR (by unfold y_offer; rw [if_neg (bf h309)]; exact hT)
  ·
    replace h309 := bI_n.1 h309
    refine gz_aload_n gd_M_version_312 rfl rfl (gz_isr.r _) ?_
    refine gz_aload_n gd_M_version_313 rfl rfl (gz_isr.r _) ?_
    refine md_getf gd_M_version_314 gf_M_13 hR rfl ?_
    refine gz_iload_n gd_M_version_317 rfl rfl ?_
    refine mt_iaload (a := 85) (i := p) gd_M_version_318 hR rfl rfl (show _ < 40 from (by omega)) (hT.home p (by omega)) ?_
    refine gz_iload_n gd_M_version_319 rfl rfl ?_
    refine gz_virtual2 gd_M_version_320 hR.1 rfl rfl gs_M_version_320 (Nat.le_of_ble_eq_true rfl) (Nat.le_of_ble_eq_true rfl) ?_
    refine m_setsOwn (T := G) (o := G.home p) (p := p) hR hT hh hp (Nat.le_trans (hB.shown _ p hh hp) hB.vs) (fun z hz => hB.src _ p z hh hp hz) (fun z hz => hB.par _ z hh hz) (Nat.le_trans (hB.last p hp) hB.vs) hV (lineL hh (by omega)) hB.postN (fun S M hR hT => ?_)
    refine gz_if_eq (tgt := 330) gd_M_version_323 (by decide) (fun h323 => ?_) (fun h323 => ?_)
    ·
      replace h323 := bI_0.1 h323
      refine gz_iconst (v := 0) gd_M_version_330 (by decide) ?_
      refine gz_istore gd_M_version_331 (Nat.le_of_ble_eq_true rfl) rfl ?_
      refine gz_iload gd_M_version_333 rfl ?_
      refine gz_ireturn gd_M_version_335 rfl rfl ?_
      exact k _ _ hR (by unfold y_offer; rw [if_pos h309]; exact hT)
    ·
      replace h323 := bI_n.1 h323
      refine gz_iconst (v := 1) gd_M_version_326 (by decide) ?_
      refine gz_goto (tgt := 331) gd_M_version_327 (by decide) ?_
      refine gz_istore gd_M_version_331 (Nat.le_of_ble_eq_true rfl) rfl ?_
      refine gz_iload gd_M_version_333 rfl ?_
      refine gz_ireturn gd_M_version_335 rfl rfl ?_
      exact k _ _ hR (by unfold y_offer; rw [if_pos h309]; exact hT)

theorem JI.v1 {G : CT} (h : JI G) {p w : Nat} {v m : Int32} (hw : w ≤ G.vs) (hw0 : 0 < w) : JI (y_v1 G p w v m) := by
  refine ⟨Bd.w_last (Bd.w_mark (Bd.w_num h.1)) hw, h.2.1, fun o q ho hq hx => ?_⟩
  show 0 < ct1 G.last p w q
  by_cases e : q = p
  · rw [e, ct1_s]
    exact hw0
  · rw [ct1_n e]
    exact h.2.2 o q ho hq hx
theorem pot_v1 {G : CT} {p w : Nat} {v m : Int32} : pot (y_v1 G p w v m) = pot G := rfl
theorem v1_last {G : CT} {p w : Nat} {v m : Int32} : (y_v1 G p w v m).last p = w := ct1_s
theorem m_ver216 {l : Launch} {D : gzD} {K : gzK} {M : gzM} {n nc ns : Nat} {M0 : gzM} {S : gS} {L : gL} {G : CT} (hR : RF M0 S L M) (hT : Rel 12 true S G) {p : Nat} {v inv bal x5 x9 : Int32} {f : Bool} {al : Int64} (hp : p < 40) (hI : JI G) (hP : pot G < 9000) (hw0 : 0 < G.vs) (k : ∀ S M, RF M0 S L M → Rel 12 true S (y_offer (y_v1 G p G.vs v (y_mark (G.reg p) bal f al)) p) → K (.inl (some (.int (y_mark (G.reg p) bal f al)))) M n nc ns) : GZ l P1 D F_M_version K 216 [some (.ref 83), some (.int (nI p)), some (.int v), some (.int inv), some (.int bal), some (.int x5), some (.long al), none, some (.int (bI f)), some (.int x9), none] [] M n nc ns := by
  have hB := hI.1
  have hv3 := hB.vs
  refine gz_aload_n gd_M_version_216 rfl rfl (gz_isr.r _) ?_
  refine md_getf gd_M_version_217 gf_M_23 hR rfl ?_
  refine gz_aload_n gd_M_version_220 rfl rfl (gz_isr.r _) ?_
  refine mt_geti gd_M_version_221 gf_M_157 hR rfl (show _ = nI G.vs from hT.vs) ?_
  refine gz_iload_n gd_M_version_224 rfl rfl ?_
  refine mt_iastore (T := G.p_num G.vs v) (a := 88) (i := G.vs) gd_M_version_225 hR rfl rfl (show _ < 301 from (by omega)) (hT.s_num (by omega) rfl) (fun S M hR hT => ?_)
  refine gz_aload_n gd_M_version_226 rfl rfl (gz_isr.r _) ?_
  refine md_getf gd_M_version_227 gf_M_29 hR rfl ?_
  refine gz_aload_n gd_M_version_230 rfl rfl (gz_isr.r _) ?_
  refine mt_geti gd_M_version_231 gf_M_157 hR rfl (show _ = nI G.vs from hT.vs) ?_
  refine gz_iload gd_M_version_234 rfl ?_
  refine gz_aload_n gd_M_version_236 rfl rfl (gz_isr.r _) ?_
  refine md_getf gd_M_version_237 gf_M_17 hR rfl ?_
  refine gz_iload_n gd_M_version_240 rfl rfl ?_
  refine mt_iaload (a := 86) (i := p) gd_M_version_241 hR rfl rfl (show _ < 40 from (by omega)) (show _ = G.reg p from hT.reg p hp) ?_
  refine gz_icmp_le (tgt := 249) gd_M_version_242 (by decide) (fun h242 => ?_) (fun h242 => ?_)
  ·
    refine gz_iconst (v := 0) gd_M_version_249 (by decide) ?_
    refine gz_iload gd_M_version_250 rfl ?_
    refine gz_if_eq (tgt := 259) gd_M_version_252 (by decide) (fun h252 => ?_) (fun h252 => ?_)
    ·
      replace h252 := bI_0.1 h252
      refine gz_iconst (v := 0) gd_M_version_259 (by decide) ?_
      refine gq_iadd (z := nI (0 + 0)) gd_M_version_260 (nI_add 0 0) ?_
      refine gz_lload gd_M_version_261 rfl ?_
      refine gz_iload gd_M_version_263 rfl ?_
      refine gz_i2l gd_M_version_265 ?_
      refine gz_lcmp gd_M_version_266 ?_
      refine gz_if_le (tgt := 274) gd_M_version_267 (by decide) (fun h267 => ?_) (fun h267 => ?_)
      ·
        refine gz_iconst (v := 0) gd_M_version_274 (by decide) ?_
        refine gq_iadd (z := nI (0 + 0 + 0)) gd_M_version_275 (nI_add (0 + 0) 0) ?_
        refine mt_iastore (T := (G.p_num G.vs v).p_mark G.vs (y_mark (G.reg p) bal f al)) (a := 90) (i := G.vs) gd_M_version_276 hR rfl rfl (show _ < 301 from (by omega)) (hT.s_mark (by omega) (by simp only [y_mark, if_pos h242, if_neg (bf h252), if_pos h267])) (fun S M hR hT => ?_)
        refine gz_aload_n gd_M_version_277 rfl rfl (gz_isr.r _) ?_
        refine md_getf gd_M_version_278 gf_M_20 hR rfl ?_
        refine gz_iload_n gd_M_version_281 rfl rfl ?_
        refine gz_aload_n gd_M_version_282 rfl rfl (gz_isr.r _) ?_
        refine mt_geti gd_M_version_283 gf_M_157 hR rfl (show _ = nI G.vs from hT.vs) ?_
        refine mt_iastore (T := y_v1 G p G.vs v (y_mark (G.reg p) bal f al)) (a := 87) (i := p) gd_M_version_286 hR rfl rfl (show _ < 40 from (by omega)) (hT.s_last hp rfl) (fun S M hR hT => ?_)
        refine gz_aload_n gd_M_version_287 rfl rfl (gz_isr.r _) ?_
        refine md_getf gd_M_version_288 gf_M_29 hR rfl ?_
        refine gz_aload_n gd_M_version_291 rfl rfl (gz_isr.r _) ?_
        refine mt_geti gd_M_version_292 gf_M_157 hR rfl (show _ = nI G.vs from hT.vs) ?_
        refine mt_iaload (a := 90) (i := G.vs) gd_M_version_295 hR rfl rfl (show _ < 301 from (by omega)) (show _ = (y_mark (G.reg p) bal f al) from (hT.mark G.vs (by omega)).trans (show ct1 _ G.vs (y_mark (G.reg p) bal f al) G.vs = _ from ct1_s)) ?_
        refine gz_istore gd_M_version_296 (Nat.le_of_ble_eq_true rfl) rfl ?_
        exact m_ver298 hR hT hp (hI.v1 (Nat.le_refl _) hw0) (by rw [pot_v1]; exact hP) (by rw [v1_last]; exact hw0) k
      ·
        refine gz_iconst (v := 4) gd_M_version_270 (by decide) ?_
        refine gz_goto (tgt := 275) gd_M_version_271 (by decide) ?_
        refine gq_iadd (z := nI (0 + 0 + 4)) gd_M_version_275 (nI_add (0 + 0) 4) ?_
        refine mt_iastore (T := (G.p_num G.vs v).p_mark G.vs (y_mark (G.reg p) bal f al)) (a := 90) (i := G.vs) gd_M_version_276 hR rfl rfl (show _ < 301 from (by omega)) (hT.s_mark (by omega) (by simp only [y_mark, if_pos h242, if_neg (bf h252), if_neg h267])) (fun S M hR hT => ?_)
        refine gz_aload_n gd_M_version_277 rfl rfl (gz_isr.r _) ?_
        refine md_getf gd_M_version_278 gf_M_20 hR rfl ?_
        refine gz_iload_n gd_M_version_281 rfl rfl ?_
        refine gz_aload_n gd_M_version_282 rfl rfl (gz_isr.r _) ?_
        refine mt_geti gd_M_version_283 gf_M_157 hR rfl (show _ = nI G.vs from hT.vs) ?_
        refine mt_iastore (T := y_v1 G p G.vs v (y_mark (G.reg p) bal f al)) (a := 87) (i := p) gd_M_version_286 hR rfl rfl (show _ < 40 from (by omega)) (hT.s_last hp rfl) (fun S M hR hT => ?_)
        refine gz_aload_n gd_M_version_287 rfl rfl (gz_isr.r _) ?_
        refine md_getf gd_M_version_288 gf_M_29 hR rfl ?_
        refine gz_aload_n gd_M_version_291 rfl rfl (gz_isr.r _) ?_
        refine mt_geti gd_M_version_292 gf_M_157 hR rfl (show _ = nI G.vs from hT.vs) ?_
        refine mt_iaload (a := 90) (i := G.vs) gd_M_version_295 hR rfl rfl (show _ < 301 from (by omega)) (show _ = (y_mark (G.reg p) bal f al) from (hT.mark G.vs (by omega)).trans (show ct1 _ G.vs (y_mark (G.reg p) bal f al) G.vs = _ from ct1_s)) ?_
        refine gz_istore gd_M_version_296 (Nat.le_of_ble_eq_true rfl) rfl ?_
        exact m_ver298 hR hT hp (hI.v1 (Nat.le_refl _) hw0) (by rw [pot_v1]; exact hP) (by rw [v1_last]; exact hw0) k
    ·
      replace h252 := bI_n.1 h252
      refine gz_iconst (v := 2) gd_M_version_255 (by decide) ?_
      refine gz_goto (tgt := 260) gd_M_version_256 (by decide) ?_
      refine gq_iadd (z := nI (0 + 2)) gd_M_version_260 (nI_add 0 2) ?_
      refine gz_lload gd_M_version_261 rfl ?_
      refine gz_iload gd_M_version_263 rfl ?_
      refine gz_i2l gd_M_version_265 ?_
      refine gz_lcmp gd_M_version_266 ?_
      refine gz_if_le (tgt := 274) gd_M_version_267 (by decide) (fun h267 => ?_) (fun h267 => ?_)
      ·
        refine gz_iconst (v := 0) gd_M_version_274 (by decide) ?_
        refine gq_iadd (z := nI (0 + 2 + 0)) gd_M_version_275 (nI_add (0 + 2) 0) ?_
        refine mt_iastore (T := (G.p_num G.vs v).p_mark G.vs (y_mark (G.reg p) bal f al)) (a := 90) (i := G.vs) gd_M_version_276 hR rfl rfl (show _ < 301 from (by omega)) (hT.s_mark (by omega) (by simp only [y_mark, if_pos h242, if_pos h252, if_pos h267])) (fun S M hR hT => ?_)
        refine gz_aload_n gd_M_version_277 rfl rfl (gz_isr.r _) ?_
        refine md_getf gd_M_version_278 gf_M_20 hR rfl ?_
        refine gz_iload_n gd_M_version_281 rfl rfl ?_
        refine gz_aload_n gd_M_version_282 rfl rfl (gz_isr.r _) ?_
        refine mt_geti gd_M_version_283 gf_M_157 hR rfl (show _ = nI G.vs from hT.vs) ?_
        refine mt_iastore (T := y_v1 G p G.vs v (y_mark (G.reg p) bal f al)) (a := 87) (i := p) gd_M_version_286 hR rfl rfl (show _ < 40 from (by omega)) (hT.s_last hp rfl) (fun S M hR hT => ?_)
        refine gz_aload_n gd_M_version_287 rfl rfl (gz_isr.r _) ?_
        refine md_getf gd_M_version_288 gf_M_29 hR rfl ?_
        refine gz_aload_n gd_M_version_291 rfl rfl (gz_isr.r _) ?_
        refine mt_geti gd_M_version_292 gf_M_157 hR rfl (show _ = nI G.vs from hT.vs) ?_
        refine mt_iaload (a := 90) (i := G.vs) gd_M_version_295 hR rfl rfl (show _ < 301 from (by omega)) (show _ = (y_mark (G.reg p) bal f al) from (hT.mark G.vs (by omega)).trans (show ct1 _ G.vs (y_mark (G.reg p) bal f al) G.vs = _ from ct1_s)) ?_
        refine gz_istore gd_M_version_296 (Nat.le_of_ble_eq_true rfl) rfl ?_
        exact m_ver298 hR hT hp (hI.v1 (Nat.le_refl _) hw0) (by rw [pot_v1]; exact hP) (by rw [v1_last]; exact hw0) k
      ·
        refine gz_iconst (v := 4) gd_M_version_270 (by decide) ?_
        refine gz_goto (tgt := 275) gd_M_version_271 (by decide) ?_
        refine gq_iadd (z := nI (0 + 2 + 4)) gd_M_version_275 (nI_add (0 + 2) 4) ?_
        refine mt_iastore (T := (G.p_num G.vs v).p_mark G.vs (y_mark (G.reg p) bal f al)) (a := 90) (i := G.vs) gd_M_version_276 hR rfl rfl (show _ < 301 from (by omega)) (hT.s_mark (by omega) (by simp only [y_mark, if_pos h242, if_pos h252, if_neg h267])) (fun S M hR hT => ?_)
        refine gz_aload_n gd_M_version_277 rfl rfl (gz_isr.r _) ?_
        refine md_getf gd_M_version_278 gf_M_20 hR rfl ?_
        refine gz_iload_n gd_M_version_281 rfl rfl ?_
        refine gz_aload_n gd_M_version_282 rfl rfl (gz_isr.r _) ?_
        refine mt_geti gd_M_version_283 gf_M_157 hR rfl (show _ = nI G.vs from hT.vs) ?_
        refine mt_iastore (T := y_v1 G p G.vs v (y_mark (G.reg p) bal f al)) (a := 87) (i := p) gd_M_version_286 hR rfl rfl (show _ < 40 from (by omega)) (hT.s_last hp rfl) (fun S M hR hT => ?_)
        refine gz_aload_n gd_M_version_287 rfl rfl (gz_isr.r _) ?_
        refine md_getf gd_M_version_288 gf_M_29 hR rfl ?_
        refine gz_aload_n gd_M_version_291 rfl rfl (gz_isr.r _) ?_
        refine mt_geti gd_M_version_292 gf_M_157 hR rfl (show _ = nI G.vs from hT.vs) ?_
        refine mt_iaload (a := 90) (i := G.vs) gd_M_version_295 hR rfl rfl (show _ < 301 from (by omega)) (show _ = (y_mark (G.reg p) bal f al) from (hT.mark G.vs (by omega)).trans (show ct1 _ G.vs (y_mark (G.reg p) bal f al) G.vs = _ from ct1_s)) ?_
        refine gz_istore gd_M_version_296 (Nat.le_of_ble_eq_true rfl) rfl ?_
        exact m_ver298 hR hT hp (hI.v1 (Nat.le_refl _) hw0) (by rw [pot_v1]; exact hP) (by rw [v1_last]; exact hw0) k
  ·
    refine gz_iconst (v := 1) gd_M_version_245 (by decide) ?_
    refine gz_goto (tgt := 250) gd_M_version_246 (by decide) ?_
    refine gz_iload gd_M_version_250 rfl ?_
    refine gz_if_eq (tgt := 259) gd_M_version_252 (by decide) (fun h252 => ?_) (fun h252 => ?_)
    ·
      replace h252 := bI_0.1 h252
      refine gz_iconst (v := 0) gd_M_version_259 (by decide) ?_
      refine gq_iadd (z := nI (1 + 0)) gd_M_version_260 (nI_add 1 0) ?_
      refine gz_lload gd_M_version_261 rfl ?_
      refine gz_iload gd_M_version_263 rfl ?_
      refine gz_i2l gd_M_version_265 ?_
      refine gz_lcmp gd_M_version_266 ?_
      refine gz_if_le (tgt := 274) gd_M_version_267 (by decide) (fun h267 => ?_) (fun h267 => ?_)
      ·
        refine gz_iconst (v := 0) gd_M_version_274 (by decide) ?_
        refine gq_iadd (z := nI (1 + 0 + 0)) gd_M_version_275 (nI_add (1 + 0) 0) ?_
        refine mt_iastore (T := (G.p_num G.vs v).p_mark G.vs (y_mark (G.reg p) bal f al)) (a := 90) (i := G.vs) gd_M_version_276 hR rfl rfl (show _ < 301 from (by omega)) (hT.s_mark (by omega) (by simp only [y_mark, if_neg h242, if_neg (bf h252), if_pos h267])) (fun S M hR hT => ?_)
        refine gz_aload_n gd_M_version_277 rfl rfl (gz_isr.r _) ?_
        refine md_getf gd_M_version_278 gf_M_20 hR rfl ?_
        refine gz_iload_n gd_M_version_281 rfl rfl ?_
        refine gz_aload_n gd_M_version_282 rfl rfl (gz_isr.r _) ?_
        refine mt_geti gd_M_version_283 gf_M_157 hR rfl (show _ = nI G.vs from hT.vs) ?_
        refine mt_iastore (T := y_v1 G p G.vs v (y_mark (G.reg p) bal f al)) (a := 87) (i := p) gd_M_version_286 hR rfl rfl (show _ < 40 from (by omega)) (hT.s_last hp rfl) (fun S M hR hT => ?_)
        refine gz_aload_n gd_M_version_287 rfl rfl (gz_isr.r _) ?_
        refine md_getf gd_M_version_288 gf_M_29 hR rfl ?_
        refine gz_aload_n gd_M_version_291 rfl rfl (gz_isr.r _) ?_
        refine mt_geti gd_M_version_292 gf_M_157 hR rfl (show _ = nI G.vs from hT.vs) ?_
        refine mt_iaload (a := 90) (i := G.vs) gd_M_version_295 hR rfl rfl (show _ < 301 from (by omega)) (show _ = (y_mark (G.reg p) bal f al) from (hT.mark G.vs (by omega)).trans (show ct1 _ G.vs (y_mark (G.reg p) bal f al) G.vs = _ from ct1_s)) ?_
        refine gz_istore gd_M_version_296 (Nat.le_of_ble_eq_true rfl) rfl ?_
        exact m_ver298 hR hT hp (hI.v1 (Nat.le_refl _) hw0) (by rw [pot_v1]; exact hP) (by rw [v1_last]; exact hw0) k
      ·
        refine gz_iconst (v := 4) gd_M_version_270 (by decide) ?_
        refine gz_goto (tgt := 275) gd_M_version_271 (by decide) ?_
        refine gq_iadd (z := nI (1 + 0 + 4)) gd_M_version_275 (nI_add (1 + 0) 4) ?_
        refine mt_iastore (T := (G.p_num G.vs v).p_mark G.vs (y_mark (G.reg p) bal f al)) (a := 90) (i := G.vs) gd_M_version_276 hR rfl rfl (show _ < 301 from (by omega)) (hT.s_mark (by omega) (by simp only [y_mark, if_neg h242, if_neg (bf h252), if_neg h267])) (fun S M hR hT => ?_)
        refine gz_aload_n gd_M_version_277 rfl rfl (gz_isr.r _) ?_
        refine md_getf gd_M_version_278 gf_M_20 hR rfl ?_
        refine gz_iload_n gd_M_version_281 rfl rfl ?_
        refine gz_aload_n gd_M_version_282 rfl rfl (gz_isr.r _) ?_
        refine mt_geti gd_M_version_283 gf_M_157 hR rfl (show _ = nI G.vs from hT.vs) ?_
        refine mt_iastore (T := y_v1 G p G.vs v (y_mark (G.reg p) bal f al)) (a := 87) (i := p) gd_M_version_286 hR rfl rfl (show _ < 40 from (by omega)) (hT.s_last hp rfl) (fun S M hR hT => ?_)
        refine gz_aload_n gd_M_version_287 rfl rfl (gz_isr.r _) ?_
        refine md_getf gd_M_version_288 gf_M_29 hR rfl ?_
        refine gz_aload_n gd_M_version_291 rfl rfl (gz_isr.r _) ?_
        refine mt_geti gd_M_version_292 gf_M_157 hR rfl (show _ = nI G.vs from hT.vs) ?_
        refine mt_iaload (a := 90) (i := G.vs) gd_M_version_295 hR rfl rfl (show _ < 301 from (by omega)) (show _ = (y_mark (G.reg p) bal f al) from (hT.mark G.vs (by omega)).trans (show ct1 _ G.vs (y_mark (G.reg p) bal f al) G.vs = _ from ct1_s)) ?_
        refine gz_istore gd_M_version_296 (Nat.le_of_ble_eq_true rfl) rfl ?_
        exact m_ver298 hR hT hp (hI.v1 (Nat.le_refl _) hw0) (by rw [pot_v1]; exact hP) (by rw [v1_last]; exact hw0) k
    ·
      replace h252 := bI_n.1 h252
      refine gz_iconst (v := 2) gd_M_version_255 (by decide) ?_
      refine gz_goto (tgt := 260) gd_M_version_256 (by decide) ?_
      refine gq_iadd (z := nI (1 + 2)) gd_M_version_260 (nI_add 1 2) ?_
      refine gz_lload gd_M_version_261 rfl ?_
      refine gz_iload gd_M_version_263 rfl ?_
      refine gz_i2l gd_M_version_265 ?_
      refine gz_lcmp gd_M_version_266 ?_
      refine gz_if_le (tgt := 274) gd_M_version_267 (by decide) (fun h267 => ?_) (fun h267 => ?_)
      ·
        refine gz_iconst (v := 0) gd_M_version_274 (by decide) ?_
        refine gq_iadd (z := nI (1 + 2 + 0)) gd_M_version_275 (nI_add (1 + 2) 0) ?_
        refine mt_iastore (T := (G.p_num G.vs v).p_mark G.vs (y_mark (G.reg p) bal f al)) (a := 90) (i := G.vs) gd_M_version_276 hR rfl rfl (show _ < 301 from (by omega)) (hT.s_mark (by omega) (by simp only [y_mark, if_neg h242, if_pos h252, if_pos h267])) (fun S M hR hT => ?_)
        refine gz_aload_n gd_M_version_277 rfl rfl (gz_isr.r _) ?_
        refine md_getf gd_M_version_278 gf_M_20 hR rfl ?_
        refine gz_iload_n gd_M_version_281 rfl rfl ?_
        refine gz_aload_n gd_M_version_282 rfl rfl (gz_isr.r _) ?_
        refine mt_geti gd_M_version_283 gf_M_157 hR rfl (show _ = nI G.vs from hT.vs) ?_
        refine mt_iastore (T := y_v1 G p G.vs v (y_mark (G.reg p) bal f al)) (a := 87) (i := p) gd_M_version_286 hR rfl rfl (show _ < 40 from (by omega)) (hT.s_last hp rfl) (fun S M hR hT => ?_)
        refine gz_aload_n gd_M_version_287 rfl rfl (gz_isr.r _) ?_
        refine md_getf gd_M_version_288 gf_M_29 hR rfl ?_
        refine gz_aload_n gd_M_version_291 rfl rfl (gz_isr.r _) ?_
        refine mt_geti gd_M_version_292 gf_M_157 hR rfl (show _ = nI G.vs from hT.vs) ?_
        refine mt_iaload (a := 90) (i := G.vs) gd_M_version_295 hR rfl rfl (show _ < 301 from (by omega)) (show _ = (y_mark (G.reg p) bal f al) from (hT.mark G.vs (by omega)).trans (show ct1 _ G.vs (y_mark (G.reg p) bal f al) G.vs = _ from ct1_s)) ?_
        refine gz_istore gd_M_version_296 (Nat.le_of_ble_eq_true rfl) rfl ?_
        exact m_ver298 hR hT hp (hI.v1 (Nat.le_refl _) hw0) (by rw [pot_v1]; exact hP) (by rw [v1_last]; exact hw0) k
      ·
        refine gz_iconst (v := 4) gd_M_version_270 (by decide) ?_
        refine gz_goto (tgt := 275) gd_M_version_271 (by decide) ?_
        refine gq_iadd (z := nI (1 + 2 + 4)) gd_M_version_275 (nI_add (1 + 2) 4) ?_
        refine mt_iastore (T := (G.p_num G.vs v).p_mark G.vs (y_mark (G.reg p) bal f al)) (a := 90) (i := G.vs) gd_M_version_276 hR rfl rfl (show _ < 301 from (by omega)) (hT.s_mark (by omega) (by simp only [y_mark, if_neg h242, if_pos h252, if_neg h267])) (fun S M hR hT => ?_)
        refine gz_aload_n gd_M_version_277 rfl rfl (gz_isr.r _) ?_
        refine md_getf gd_M_version_278 gf_M_20 hR rfl ?_
        refine gz_iload_n gd_M_version_281 rfl rfl ?_
        refine gz_aload_n gd_M_version_282 rfl rfl (gz_isr.r _) ?_
        refine mt_geti gd_M_version_283 gf_M_157 hR rfl (show _ = nI G.vs from hT.vs) ?_
        refine mt_iastore (T := y_v1 G p G.vs v (y_mark (G.reg p) bal f al)) (a := 87) (i := p) gd_M_version_286 hR rfl rfl (show _ < 40 from (by omega)) (hT.s_last hp rfl) (fun S M hR hT => ?_)
        refine gz_aload_n gd_M_version_287 rfl rfl (gz_isr.r _) ?_
        refine md_getf gd_M_version_288 gf_M_29 hR rfl ?_
        refine gz_aload_n gd_M_version_291 rfl rfl (gz_isr.r _) ?_
        refine mt_geti gd_M_version_292 gf_M_157 hR rfl (show _ = nI G.vs from hT.vs) ?_
        refine mt_iaload (a := 90) (i := G.vs) gd_M_version_295 hR rfl rfl (show _ < 301 from (by omega)) (show _ = (y_mark (G.reg p) bal f al) from (hT.mark G.vs (by omega)).trans (show ct1 _ G.vs (y_mark (G.reg p) bal f al) G.vs = _ from ct1_s)) ?_
        refine gz_istore gd_M_version_296 (Nat.le_of_ble_eq_true rfl) rfl ?_
        exact m_ver298 hR hT hp (hI.v1 (Nat.le_refl _) hw0) (by rw [pot_v1]; exact hP) (by rw [v1_last]; exact hw0) k
