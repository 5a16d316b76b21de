/-! both sides answer alike -/
def RR (E : EV) (gx : Nat → Int32) (lt : Option Nat) (mo : Int32) (ad : Nat) (ln : Int32) (PL : List Nat) (pf : Nat → va_E) (pw : Nat → Int64) (pk : Int32) (lw : Nat → Int64) (lk : Int32) (ik : Nat → Int32) (ow : Nat → Int64) (gm ks os ts iq mk me : Nat → Int32) : Prop := ∃ (a : AS) (M : Nat → Int), Inv a ∧ RX E a gx lt ad ln PL pf pw pk lw lk ik ∧ RM M a gm ks os ts iq mk me ∧ PB M a
theorem lgs (v : Int64) : lg_cmp v v = 0 := by
  unfold lg_cmp
  split
  · rename_i h
    have h2 : v < v := h
    rw [Int64.lt_iff_toInt_lt] at h2
    omega
  · rw [if_pos rfl]
theorem fin0 {P : Prop} {t : Int32} {u v : Int64} (ht : t = 0) (huv : u = v) (hp : P) : (t = 0 → (((0 : Int32) = 0 → ((lg_cmp u v = 0 → P) ∧ (¬ lg_cmp u v = 0 → False))) ∧ (¬ ((0 : Int32) = 0) → P))) ∧ (¬ (t = 0) → False) :=
  ⟨fun _ => ⟨fun _ => ⟨fun _ => hp, fun n => n (by rw [huv]; exact lgs v)⟩, fun n => absurd rfl n⟩, fun n => n ht⟩
theorem finT {P Q : Prop} {t k : Int32} (ht : t = k) (hk : ¬ k = 0) (hp : P) : (t = k → ((k = 0 → Q) ∧ (¬ (k = 0) → P))) ∧ (¬ (t = k) → False) :=
  ⟨fun _ => ⟨fun e => absurd e hk, fun _ => hp⟩, fun n => n ht⟩
theorem finB {P : Prop} {t r : Int32} {u : Int64} (ht : t = 0) (hu : u = if r = 0 then 0 else 1) (hp : P) : (t = 0 → (((0 : Int32) = 0 → ((r = 0 → ((lg_cmp u 0 = 0 → P) ∧ (¬ lg_cmp u 0 = 0 → False))) ∧ (¬ (r = 0) → ((lg_cmp u 1 = 0 → P) ∧ (¬ lg_cmp u 1 = 0 → False))))) ∧ (¬ ((0 : Int32) = 0) → P))) ∧ (¬ (t = 0) → False) :=
  ⟨fun _ => ⟨fun _ => ⟨fun e => ⟨fun _ => hp, fun n => n (by rw [hu, if_pos e]; exact lgs 0)⟩, fun e => ⟨fun _ => hp, fun n => n (by rw [hu, if_neg e]; exact lgs 1)⟩⟩, fun n => absurd rfl n⟩, fun n => n ht⟩
theorem th_of {M : Nat → Int} {a : AS} {gm ks os ts iq mk me : Nat → Int32} (h : RM M a gm ks os ts iq mk me) {t : Int} (ht : M 26 = t) : gm 26 = iI t := by rw [h.1, ht]
theorem a13_rng {a : AS} (h : Inv a) : 0 ≤ a.1 13 ∧ a.1 13 ≤ 128 := by
  have hp := h.2.2.1.1
  cases hq : aQ a with
  | nil => rw [hq] at hp; have := hp.1; omega
  | cons c r =>
    rw [hq, prog_cons] at hp
    have := okc_rng (h.1.1 c (by rw [hq]; exact List.mem_cons_self))
    omega
theorem k_128 {E : EV} {gx : Nat → Int32} {lt : Option Nat} {mo : Int32} {ad : Nat} {ln : Int32} {PL : List Nat} {pf : Nat → va_E} {pw : Nat → Int64} {pk : Int32} {lw : Nat → Int64} {lk : Int32} {ik : Nat → Int32} {ow : Nat → Int64} {gm ks os ts iq mk me : Nat → Int32} (h : RR E gx lt mo ad ln PL pf pw pk lw lk ik ow gm ks os ts iq mk me) (v1 v2 : Int32) : wp_law_128 E (RR E) gx lt mo ad ln PL pf pw pk lw lk ik ow gm ks os ts iq mk me v1 v2 := by
  obtain ⟨a, M, hi, hx, hm, hpb⟩ := h
  obtain ⟨p, h1, h2, rfl⟩ := iI_of v1
  unfold wp_law_128 wp_L_feed
  refine s_feed hx hi h1 h2 (fun hv => ?_) (fun hv => ?_)
  · intro gx' lt' mo' ad' ln' PL' pf' pw' pk' lw' lk' ik' hx'
    have key : ∀ v : Int64, v = (if (if 8 ≤ (aQ a).length then (0 : Int32) else 1) = 0 then (0 : Int64) else 1) → wp_X3_feed E (fun (r_1279 : Int32) (gm_1280 : Nat → Int32) (ks_1281 : Nat → Int32) (os_1282 : Nat → Int32) (ts_1283 : Nat → Int32) (iq_1284 : Nat → Int32) (mk_1285 : Nat → Int32) (me_1286 : Nat → Int32) => (wp_X3_thrown E (fun r_1287 : Int32 => ((r_1287 = 0 → (((0 : Int32) = 0 → ((r_1279 = 0 → (((lg_cmp (vp_updL ow (0 : Int32).toNatClampNeg v (0 : Int32).toNatClampNeg) 0) = 0 → RR E gx' lt' mo' ad' ln' PL' pf' pw' pk' lw' lk' ik' (vp_updL ow (0 : Int32).toNatClampNeg v) gm_1280 ks_1281 os_1282 ts_1283 iq_1284 mk_1285 me_1286) ∧ (¬ (lg_cmp (vp_updL ow (0 : Int32).toNatClampNeg v (0 : Int32).toNatClampNeg) 0) = 0 → False))) ∧ (¬ (r_1279 = 0) → (((lg_cmp (vp_updL ow (0 : Int32).toNatClampNeg v (0 : Int32).toNatClampNeg) 1) = 0 → RR E gx' lt' mo' ad' ln' PL' pf' pw' pk' lw' lk' ik' (vp_updL ow (0 : Int32).toNatClampNeg v) gm_1280 ks_1281 os_1282 ts_1283 iq_1284 mk_1285 me_1286) ∧ (¬ (lg_cmp (vp_updL ow (0 : Int32).toNatClampNeg v (0 : Int32).toNatClampNeg) 1) = 0 → False))))) ∧ (¬ ((0 : Int32) = 0) → RR E gx' lt' mo' ad' ln' PL' pf' pw' pk' lw' lk' ik' (vp_updL ow (0 : Int32).toNatClampNeg v) gm_1280 ks_1281 os_1282 ts_1283 iq_1284 mk_1285 me_1286))) ∧ (¬ (r_1287 = 0) → False))) gm_1280 ks_1281 os_1282 ts_1283 iq_1284 mk_1285 me_1286)) gm ks os ts iq mk me (iI p) := by
      intro v ev
      refine m_feed hm hpb hi h1 h2 (fun _ => ?_) (fun n => absurd hv n)
      intro M' gm' ks' os' ts' iq' mk' me' hm' hpb' h26
      unfold wp_X3_thrown
      refine finB ?_ ?_ ⟨_, M', inv_feed hi hv.1 hv.2, hx', hm', hpb'⟩
      · rw [th_of hm' h26]; rfl
      · rw [pk_uLs]; exact ev
    by_cases h8 : 8 ≤ (aQ a).length
    · rw [if_pos h8]
      rw [if_pos h8] at key
      exact ⟨fun _ => key 0 rfl, fun n => absurd rfl n⟩
    · rw [if_neg h8]
      rw [if_neg h8] at key
      exact ⟨fun e => absurd e (by decide), fun _ => key 1 rfl⟩
  · refine ⟨rfl, ?_⟩
    refine m_feed hm hpb hi h1 h2 (fun n => absurd n hv) (fun _ => ?_)
    intro M' gm' ks' os' ts' iq' mk' me' hm' hpb' h26
    unfold wp_X3_thrown
    refine finT ?_ (by decide) ⟨a, M', hi, hx, hm', hpb'⟩
    rw [th_of hm' h26]; rfl
theorem k_230 {E : EV} {gx : Nat → Int32} {lt : Option Nat} {mo : Int32} {ad : Nat} {ln : Int32} {PL : List Nat} {pf : Nat → va_E} {pw : Nat → Int64} {pk : Int32} {lw : Nat → Int64} {lk : Int32} {ik : Nat → Int32} {ow : Nat → Int64} {gm ks os ts iq mk me : Nat → Int32} (h : RR E gx lt mo ad ln PL pf pw pk lw lk ik ow gm ks os ts iq mk me) (v1 v2 : Int32) : wp_law_230 E (RR E) gx lt mo ad ln PL pf pw pk lw lk ik ow gm ks os ts iq mk me v1 v2 := by
  obtain ⟨a, M, hi, hx, hm, hpb⟩ := h
  obtain ⟨p, h1, h2, rfl⟩ := iI_of v1
  unfold wp_law_230 wp_L_tick
  refine s_tick hx hi h1 h2 (fun hv => ?_) (fun hv => ?_)
  · intro gx' lt' mo' ad' ln' PL' pf' pw' pk' lw' lk' ik' hx'
    refine m_tick hm hpb hi h1 h2 (fun _ => ?_) (fun n => absurd hv n)
    intro M' gm' ks' os' ts' iq' mk' me' hm' hpb' h26
    unfold wp_X3_thrown
    refine fin0 ?_ pk_uLs ⟨_, M', inv_ticks _ hi, hx', hm', hpb'⟩
    rw [th_of hm' h26]; rfl
  · refine ⟨rfl, ?_⟩
    refine m_tick hm hpb hi h1 h2 (fun n => absurd n hv) (fun _ => ?_)
    intro M' gm' ks' os' ts' iq' mk' me' hm' hpb' h26
    unfold wp_X3_thrown
    refine finT ?_ (by decide) ⟨a, M', hi, hx, hm', hpb'⟩
    rw [th_of hm' h26]; rfl
theorem k_299 {E : EV} {gx : Nat → Int32} {lt : Option Nat} {mo : Int32} {ad : Nat} {ln : Int32} {PL : List Nat} {pf : Nat → va_E} {pw : Nat → Int64} {pk : Int32} {lw : Nat → Int64} {lk : Int32} {ik : Nat → Int32} {ow : Nat → Int64} {gm ks os ts iq mk me : Nat → Int32} (h : RR E gx lt mo ad ln PL pf pw pk lw lk ik ow gm ks os ts iq mk me) (v1 v2 : Int32) : wp_law_299 E (RR E) gx lt mo ad ln PL pf pw pk lw lk ik ow gm ks os ts iq mk me v1 v2 := by
  obtain ⟨a, M, hi, hx, hm, hpb⟩ := h
  obtain ⟨p, h1, h2, rfl⟩ := iI_of v1
  unfold wp_law_299 wp_L_refill
  refine s_refill hx h1 h2 (fun hv => ?_) (fun hv => ?_)
  · intro gx' lt' mo' ad' ln' PL' pf' pw' pk' lw' lk' ik' hx'
    refine m_refill hm hpb h1 h2 (fun _ => ?_) (fun n => absurd hv n)
    intro M' gm' ks' os' ts' iq' mk' me' hm' hpb' h26
    unfold wp_X3_thrown
    refine fin0 ?_ pk_uLs ⟨_, M', inv_inkset hi (by omega) (by omega), hx', hm', hpb'⟩
    rw [th_of hm' h26]; rfl
  · refine ⟨rfl, ?_⟩
    refine m_refill hm hpb h1 h2 (fun n => absurd n hv) (fun _ => ?_)
    intro M' gm' ks' os' ts' iq' mk' me' hm' hpb' h26
    unfold wp_X3_thrown
    refine finT ?_ (by decide) ⟨a, M', hi, hx, hm', hpb'⟩
    rw [th_of hm' h26]; rfl
theorem k_355 {E : EV} {gx : Nat → Int32} {lt : Option Nat} {mo : Int32} {ad : Nat} {ln : Int32} {PL : List Nat} {pf : Nat → va_E} {pw : Nat → Int64} {pk : Int32} {lw : Nat → Int64} {lk : Int32} {ik : Nat → Int32} {ow : Nat → Int64} {gm ks os ts iq mk me : Nat → Int32} (h : RR E gx lt mo ad ln PL pf pw pk lw lk ik ow gm ks os ts iq mk me) (v1 v2 : Int32) : wp_law_355 E (RR E) gx lt mo ad ln PL pf pw pk lw lk ik ow gm ks os ts iq mk me v1 v2 := by
  obtain ⟨a, M, hi, hx, hm, hpb⟩ := h
  obtain ⟨p, h1, h2, rfl⟩ := iI_of v1
  obtain ⟨n, h3, h4, rfl⟩ := iI_of v2
  unfold wp_law_355 wp_L_pour
  refine s_pour hx hi h1 h2 h3 h4 (fun hv hn => ?_) (fun hv => ?_) (fun hv hn => ?_)
  · intro gx' lt' mo' ad' ln' PL' pf' pw' pk' lw' lk' ik' hx'
    refine m_pour hm hpb hi h1 h2 h3 h4 (fun _ _ => ?_) (fun n => absurd hv n) (fun _ n => absurd hn n)
    intro M' gm' ks' os' ts' iq' mk' me' hm' hpb' h26
    unfold wp_X3_thrown
    refine fin0 ?_ pk_uLs ⟨_, M', inv_pour hi hn.1, hx', hm', hpb'⟩
    rw [th_of hm' h26]; rfl
  · refine Or.inl ⟨rfl, ?_⟩
    refine m_pour hm hpb hi h1 h2 h3 h4 (fun q _ => absurd q hv) (fun _ => ?_) (fun q _ => absurd q hv)
    intro M' gm' ks' os' ts' iq' mk' me' hm' hpb' h26
    unfold wp_X3_thrown
    refine finT ?_ (by decide) ⟨a, M', hi, hx, hm', hpb'⟩
    rw [th_of hm' h26]; rfl
  · refine Or.inr ⟨rfl, ?_⟩
    refine m_pour hm hpb hi h1 h2 h3 h4 (fun _ q => absurd q hn) (fun q => absurd hv q) (fun _ _ => ?_)
    intro M' gm' ks' os' ts' iq' mk' me' hm' hpb' h26
    unfold wp_X3_thrown
    refine finT ?_ (by decide) ⟨a, M', hi, hx, hm', hpb'⟩
    rw [th_of hm' h26]; rfl
theorem k_462 {E : EV} {gx : Nat → Int32} {lt : Option Nat} {mo : Int32} {ad : Nat} {ln : Int32} {PL : List Nat} {pf : Nat → va_E} {pw : Nat → Int64} {pk : Int32} {lw : Nat → Int64} {lk : Int32} {ik : Nat → Int32} {ow : Nat → Int64} {gm ks os ts iq mk me : Nat → Int32} (h : RR E gx lt mo ad ln PL pf pw pk lw lk ik ow gm ks os ts iq mk me) (v1 v2 : Int32) : wp_law_462 E (RR E) gx lt mo ad ln PL pf pw pk lw lk ik ow gm ks os ts iq mk me v1 v2 := by
  obtain ⟨a, M, hi, hx, hm, hpb⟩ := h
  obtain ⟨p, h1, h2, rfl⟩ := iI_of v1
  unfold wp_law_462 wp_L_ink
  refine s_ink hx h1 h2 (fun hv => ?_) (fun hv => ?_)
  · intro gx' lt' mo' ad' ln' PL' pf' pw' pk' lw' lk' ik' hx'
    refine m_ink hm hpb h1 h2 (fun _ => ?_) (fun n => absurd hv n)
    intro M' gm' ks' os' ts' iq' mk' me' hm' hpb' h26
    unfold wp_X3_thrown
    refine fin0 ?_ pk_uLs ⟨_, M', hi, hx', hm', hpb'⟩
    rw [th_of hm' h26]; rfl
  · refine ⟨rfl, ?_⟩
    refine m_ink hm hpb h1 h2 (fun n => absurd n hv) (fun _ => ?_)
    intro M' gm' ks' os' ts' iq' mk' me' hm' hpb' h26
    unfold wp_X3_thrown
    refine finT ?_ (by decide) ⟨a, M', hi, hx, hm', hpb'⟩
    rw [th_of hm' h26]; rfl
theorem k_570 {E : EV} {gx : Nat → Int32} {lt : Option Nat} {mo : Int32} {ad : Nat} {ln : Int32} {PL : List Nat} {pf : Nat → va_E} {pw : Nat → Int64} {pk : Int32} {lw : Nat → Int64} {lk : Int32} {ik : Nat → Int32} {ow : Nat → Int64} {gm ks os ts iq mk me : Nat → Int32} (h : RR E gx lt mo ad ln PL pf pw pk lw lk ik ow gm ks os ts iq mk me) (v1 v2 : Int32) : wp_law_570 E (RR E) gx lt mo ad ln PL pf pw pk lw lk ik ow gm ks os ts iq mk me v1 v2 := by
  obtain ⟨a, M, hi, hx, hm, hpb⟩ := h
  obtain ⟨p, h1, h2, rfl⟩ := iI_of v1
  obtain ⟨n, h3, h4, rfl⟩ := iI_of v2
  unfold wp_law_570 wp_L_isMarked
  refine s_isMarked hx h1 h2 h3 h4 (fun hv => ?_) (fun hv => ?_)
  · intro gx' lt' mo' ad' ln' PL' pf' pw' pk' lw' lk' ik' hx'
    by_cases hb : aM a (cel p n) = true
    · rw [if_pos hb]
      refine ⟨fun e => absurd e (by decide), fun _ => ?_⟩
      refine m_isMarked hm hpb h1 h2 h3 h4 (fun _ => ?_) (fun n => absurd hv n)
      intro M' gm' ks' os' ts' iq' mk' me' hm' hpb' h26
      unfold wp_X3_thrown
      refine finB ?_ ?_ ⟨_, M', hi, hx', hm', hpb'⟩
      · rw [th_of hm' h26]; rfl
      · rw [pk_uLs, if_pos hb]; rfl
    · rw [if_neg hb]
      refine ⟨fun _ => ?_, fun e => absurd rfl e⟩
      refine m_isMarked hm hpb h1 h2 h3 h4 (fun _ => ?_) (fun n => absurd hv n)
      intro M' gm' ks' os' ts' iq' mk' me' hm' hpb' h26
      unfold wp_X3_thrown
      refine finB ?_ ?_ ⟨_, M', hi, hx', hm', hpb'⟩
      · rw [th_of hm' h26]; rfl
      · rw [pk_uLs, if_neg hb]; rfl
  · refine ⟨rfl, ?_⟩
    refine m_isMarked hm hpb h1 h2 h3 h4 (fun n => absurd n hv) (fun _ => ?_)
    intro M' gm' ks' os' ts' iq' mk' me' hm' hpb' h26
    unfold wp_X3_thrown
    refine finT ?_ (by decide) ⟨a, M', hi, hx, hm', hpb'⟩
    rw [th_of hm' h26]; rfl
theorem k_286 {E : EV} {gx : Nat → Int32} {lt : Option Nat} {mo : Int32} {ad : Nat} {ln : Int32} {PL : List Nat} {pf : Nat → va_E} {pw : Nat → Int64} {pk : Int32} {lw : Nat → Int64} {lk : Int32} {ik : Nat → Int32} {ow : Nat → Int64} {gm ks os ts iq mk me : Nat → Int32} (h : RR E gx lt mo ad ln PL pf pw pk lw lk ik ow gm ks os ts iq mk me) (v1 v2 : Int32) : wp_law_286 E (RR E) gx lt mo ad ln PL pf pw pk lw lk ik ow gm ks os ts iq mk me v1 v2 := by
  obtain ⟨a, M, hi, hx, hm, hpb⟩ := h
  unfold wp_law_286
  refine s_cut hx (a13_rng hi) ?_
  intro gx' lt' mo' ad' ln' PL' pf' pw' pk' lw' lk' ik' hx'
  refine m_cut hm hi (a13_rng hi) ?_
  intro M' gm' ks' os' ts' iq' mk' me' hm' hpb' h26
  exact ⟨fun _ => ⟨_, M', inv_cut hi, hx', hm', hpb'⟩, fun n => n rfl⟩
theorem k_191 {E : EV} {gx : Nat → Int32} {lt : Option Nat} {mo : Int32} {ad : Nat} {ln : Int32} {PL : List Nat} {pf : Nat → va_E} {pw : Nat → Int64} {pk : Int32} {lw : Nat → Int64} {lk : Int32} {ik : Nat → Int32} {ow : Nat → Int64} {gm ks os ts iq mk me : Nat → Int32} (h : RR E gx lt mo ad ln PL pf pw pk lw lk ik ow gm ks os ts iq mk me) (v1 v2 : Int32) : wp_law_191 E (RR E) gx lt mo ad ln PL pf pw pk lw lk ik ow gm ks os ts iq mk me v1 v2 := by
  obtain ⟨a, M, hi, hx, hm, hpb⟩ := h
  unfold wp_law_191 wp_X2_errors
  rw [hx.1]
  exact m_errors hm hpb (fun M' gm' ks' os' ts' iq' mk' me' hm' hpb' _ => ⟨fun _ => ⟨a, M', hi, hx, hm', hpb'⟩, fun n => n rfl⟩)
theorem k_204 {E : EV} {gx : Nat → Int32} {lt : Option Nat} {mo : Int32} {ad : Nat} {ln : Int32} {PL : List Nat} {pf : Nat → va_E} {pw : Nat → Int64} {pk : Int32} {lw : Nat → Int64} {lk : Int32} {ik : Nat → Int32} {ow : Nat → Int64} {gm ks os ts iq mk me : Nat → Int32} (h : RR E gx lt mo ad ln PL pf pw pk lw lk ik ow gm ks os ts iq mk me) (v1 v2 : Int32) : wp_law_204 E (RR E) gx lt mo ad ln PL pf pw pk lw lk ik ow gm ks os ts iq mk me v1 v2 := by
  obtain ⟨a, M, hi, hx, hm, hpb⟩ := h
  unfold wp_law_204 wp_X2_queued
  rw [q_size8, hx.2.1]
  have hx2 := hx
  rw [hx.2.1] at hx2
  exact m_queued hm hpb (fun M' gm' ks' os' ts' iq' mk' me' hm' hpb' _ => ⟨fun _ => ⟨a, M', hi, hx2, hm', hpb'⟩, fun n => n rfl⟩)
theorem k_217 {E : EV} {gx : Nat → Int32} {lt : Option Nat} {mo : Int32} {ad : Nat} {ln : Int32} {PL : List Nat} {pf : Nat → va_E} {pw : Nat → Int64} {pk : Int32} {lw : Nat → Int64} {lk : Int32} {ik : Nat → Int32} {ow : Nat → Int64} {gm ks os ts iq mk me : Nat → Int32} (h : RR E gx lt mo ad ln PL pf pw pk lw lk ik ow gm ks os ts iq mk me) (v1 v2 : Int32) : wp_law_217 E (RR E) gx lt mo ad ln PL pf pw pk lw lk ik ow gm ks os ts iq mk me v1 v2 := by
  obtain ⟨a, M, hi, hx, hm, hpb⟩ := h
  unfold wp_law_217 wp_X2_pending
  rw [hx.1]
  exact m_pending hm hpb (fun M' gm' ks' os' ts' iq' mk' me' hm' hpb' _ => ⟨fun _ => ⟨a, M', hi, hx, hm', hpb'⟩, fun n => n rfl⟩)
theorem k_423 {E : EV} {gx : Nat → Int32} {lt : Option Nat} {mo : Int32} {ad : Nat} {ln : Int32} {PL : List Nat} {pf : Nat → va_E} {pw : Nat → Int64} {pk : Int32} {lw : Nat → Int64} {lk : Int32} {ik : Nat → Int32} {ow : Nat → Int64} {gm ks os ts iq mk me : Nat → Int32} (h : RR E gx lt mo ad ln PL pf pw pk lw lk ik ow gm ks os ts iq mk me) (v1 v2 : Int32) : wp_law_423 E (RR E) gx lt mo ad ln PL pf pw pk lw lk ik ow gm ks os ts iq mk me v1 v2 := by
  obtain ⟨a, M, hi, hx, hm, hpb⟩ := h
  unfold wp_law_423
  refine s_at hx hi ?_
  exact m_at hm hpb (fun M' gm' ks' os' ts' iq' mk' me' hm' hpb' _ => ⟨fun _ => ⟨a, M', hi, hx, hm', hpb'⟩, fun n => n rfl⟩)
theorem k_436 {E : EV} {gx : Nat → Int32} {lt : Option Nat} {mo : Int32} {ad : Nat} {ln : Int32} {PL : List Nat} {pf : Nat → va_E} {pw : Nat → Int64} {pk : Int32} {lw : Nat → Int64} {lk : Int32} {ik : Nat → Int32} {ow : Nat → Int64} {gm ks os ts iq mk me : Nat → Int32} (h : RR E gx lt mo ad ln PL pf pw pk lw lk ik ow gm ks os ts iq mk me) (v1 v2 : Int32) : wp_law_436 E (RR E) gx lt mo ad ln PL pf pw pk lw lk ik ow gm ks os ts iq mk me v1 v2 := by
  obtain ⟨a, M, hi, hx, hm, hpb⟩ := h
  unfold wp_law_436
  refine s_isDown hx hi ?_
  exact m_isDown hm hpb hi (fun M' gm' ks' os' ts' iq' mk' me' hm' hpb' _ => ⟨fun _ => ⟨a, M', hi, hx, hm', hpb'⟩, fun n => n rfl⟩)
theorem k_449 {E : EV} {gx : Nat → Int32} {lt : Option Nat} {mo : Int32} {ad : Nat} {ln : Int32} {PL : List Nat} {pf : Nat → va_E} {pw : Nat → Int64} {pk : Int32} {lw : Nat → Int64} {lk : Int32} {ik : Nat → Int32} {ow : Nat → Int64} {gm ks os ts iq mk me : Nat → Int32} (h : RR E gx lt mo ad ln PL pf pw pk lw lk ik ow gm ks os ts iq mk me) (v1 v2 : Int32) : wp_law_449 E (RR E) gx lt mo ad ln PL pf pw pk lw lk ik ow gm ks os ts iq mk me v1 v2 := by
  obtain ⟨a, M, hi, hx, hm, hpb⟩ := h
  unfold wp_law_449 wp_X2_pen
  rw [hx.1]
  exact m_pen hm hpb (fun M' gm' ks' os' ts' iq' mk' me' hm' hpb' _ => ⟨fun _ => ⟨a, M', hi, hx, hm', hpb'⟩, fun n => n rfl⟩)
theorem k_518 {E : EV} {gx : Nat → Int32} {lt : Option Nat} {mo : Int32} {ad : Nat} {ln : Int32} {PL : List Nat} {pf : Nat → va_E} {pw : Nat → Int64} {pk : Int32} {lw : Nat → Int64} {lk : Int32} {ik : Nat → Int32} {ow : Nat → Int64} {gm ks os ts iq mk me : Nat → Int32} (h : RR E gx lt mo ad ln PL pf pw pk lw lk ik ow gm ks os ts iq mk me) (v1 v2 : Int32) : wp_law_518 E (RR E) gx lt mo ad ln PL pf pw pk lw lk ik ow gm ks os ts iq mk me v1 v2 := by
  obtain ⟨a, M, hi, hx, hm, hpb⟩ := h
  unfold wp_law_518
  refine s_waiting hx hi ?_
  exact m_waiting hm hpb hi (fun M' gm' ks' os' ts' iq' mk' me' hm' hpb' _ => ⟨fun _ => ⟨a, M', hi, hx, hm', hpb'⟩, fun n => n rfl⟩)
theorem k_531 {E : EV} {gx : Nat → Int32} {lt : Option Nat} {mo : Int32} {ad : Nat} {ln : Int32} {PL : List Nat} {pf : Nat → va_E} {pw : Nat → Int64} {pk : Int32} {lw : Nat → Int64} {lk : Int32} {ik : Nat → Int32} {ow : Nat → Int64} {gm ks os ts iq mk me : Nat → Int32} (h : RR E gx lt mo ad ln PL pf pw pk lw lk ik ow gm ks os ts iq mk me) (v1 v2 : Int32) : wp_law_531 E (RR E) gx lt mo ad ln PL pf pw pk lw lk ik ow gm ks os ts iq mk me v1 v2 := by
  obtain ⟨a, M, hi, hx, hm, hpb⟩ := h
  unfold wp_law_531
  refine s_timeLeft hx hi ?_
  exact m_timeLeft hm hpb hi (fun M' gm' ks' os' ts' iq' mk' me' hm' hpb' _ => ⟨fun _ => ⟨a, M', hi, hx, hm', hpb'⟩, fun n => n rfl⟩)
theorem k_544 {E : EV} {gx : Nat → Int32} {lt : Option Nat} {mo : Int32} {ad : Nat} {ln : Int32} {PL : List Nat} {pf : Nat → va_E} {pw : Nat → Int64} {pk : Int32} {lw : Nat → Int64} {lk : Int32} {ik : Nat → Int32} {ow : Nat → Int64} {gm ks os ts iq mk me : Nat → Int32} (h : RR E gx lt mo ad ln PL pf pw pk lw lk ik ow gm ks os ts iq mk me) (v1 v2 : Int32) : wp_law_544 E (RR E) gx lt mo ad ln PL pf pw pk lw lk ik ow gm ks os ts iq mk me v1 v2 := by
  obtain ⟨a, M, hi, hx, hm, hpb⟩ := h
  unfold wp_law_544 wp_X2_stepsUp
  rw [hx.1]
  exact m_stepsUp hm hpb (fun M' gm' ks' os' ts' iq' mk' me' hm' hpb' _ => ⟨fun _ => ⟨a, M', hi, hx, hm', hpb'⟩, fun n => n rfl⟩)
theorem k_557 {E : EV} {gx : Nat → Int32} {lt : Option Nat} {mo : Int32} {ad : Nat} {ln : Int32} {PL : List Nat} {pf : Nat → va_E} {pw : Nat → Int64} {pk : Int32} {lw : Nat → Int64} {lk : Int32} {ik : Nat → Int32} {ow : Nat → Int64} {gm ks os ts iq mk me : Nat → Int32} (h : RR E gx lt mo ad ln PL pf pw pk lw lk ik ow gm ks os ts iq mk me) (v1 v2 : Int32) : wp_law_557 E (RR E) gx lt mo ad ln PL pf pw pk lw lk ik ow gm ks os ts iq mk me v1 v2 := by
  obtain ⟨a, M, hi, hx, hm, hpb⟩ := h
  unfold wp_law_557 wp_X2_stepsDown
  rw [hx.1]
  exact m_stepsDown hm hpb (fun M' gm' ks' os' ts' iq' mk' me' hm' hpb' _ => ⟨fun _ => ⟨a, M', hi, hx, hm', hpb'⟩, fun n => n rfl⟩)
theorem k_645 {E : EV} {gx : Nat → Int32} {lt : Option Nat} {mo : Int32} {ad : Nat} {ln : Int32} {PL : List Nat} {pf : Nat → va_E} {pw : Nat → Int64} {pk : Int32} {lw : Nat → Int64} {lk : Int32} {ik : Nat → Int32} {ow : Nat → Int64} {gm ks os ts iq mk me : Nat → Int32} (h : RR E gx lt mo ad ln PL pf pw pk lw lk ik ow gm ks os ts iq mk me) (v1 v2 : Int32) : wp_law_645 E (RR E) gx lt mo ad ln PL pf pw pk lw lk ik ow gm ks os ts iq mk me v1 v2 := by
  obtain ⟨a, M, hi, hx, hm, hpb⟩ := h
  unfold wp_law_645 wp_X2_marks
  have hx2 := hx
  rw [hx.2.2.2.2.1.2] at hx2 ⊢
  exact m_marks hm hpb hi (fun M' gm' ks' os' ts' iq' mk' me' hm' hpb' _ => ⟨fun _ => ⟨a, M', hi, hx2, hm', hpb'⟩, fun n => n rfl⟩)
theorem k_658 {E : EV} {gx : Nat → Int32} {lt : Option Nat} {mo : Int32} {ad : Nat} {ln : Int32} {PL : List Nat} {pf : Nat → va_E} {pw : Nat → Int64} {pk : Int32} {lw : Nat → Int64} {lk : Int32} {ik : Nat → Int32} {ow : Nat → Int64} {gm ks os ts iq mk me : Nat → Int32} (h : RR E gx lt mo ad ln PL pf pw pk lw lk ik ow gm ks os ts iq mk me) (v1 v2 : Int32) : wp_law_658 E (RR E) gx lt mo ad ln PL pf pw pk lw lk ik ow gm ks os ts iq mk me v1 v2 := by
  obtain ⟨a, M, hi, hx, hm, hpb⟩ := h
  unfold wp_law_658 wp_X2_marksInTheEnd
  have hx2 := hx
  rw [hx.2.2.2.2.2.1.2] at hx2 ⊢
  exact m_marksE hm hpb hi (fun M' gm' ks' os' ts' iq' mk' me' hm' hpb' _ => ⟨fun _ => ⟨a, M', hi, hx2, hm', hpb'⟩, fun n => n rfl⟩)
