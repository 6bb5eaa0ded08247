/-! ===== both sides: every call answers alike ===== -/
section PAIRS2
variable {G : tkG} {n : Nat} {T : Nat → Nat × Nat} {I : Nat → Nat → Int32} {L : Nat → Nat → Int64} {P : Nat → Nat → Option Nat}
variable {n1 : Nat} {T1 : Nat → Nat × Nat} {K : Nat → Nat → Int32} {L1 : Nat → Nat → Int64} {P1 : Nat → Nat → Option Nat}
theorem rq_pm2 {c c0 : Option Int32} {v v0 : Int32} {I' J0 J1 : Nat → Nat → Int32} (hc : c = c0) (hv : c0 = none → v = v0) (hj : I' = mixJ J1 K) (hs : jSm J0 J1) : ∀ rv h, rPm n1 T1 P1 L1 (mixJ I K) c v I' rv h → rQQ n1 T1 K L1 P1 (Fc I c0 v0 J0) rv h := by
  subst hc; subst hj
  intro rv h hq
  cases c with
  | none => exact rq_pt hq (fun x Y hY z => ⟨z.1.trans (hv rfl).symm, hY _ _ z.2 hs⟩)
  | some f =>
    have hq' : rPt n1 T1 P1 L1 f (rFnd (mixJ I K)) rv h := hq
    rw [mix_fnd] at hq'
    exact rq_pt hq' (fun x Y _ z => z)
theorem rq_fs {c c0 : Option Int32} {Q : Option tkV → tkH → Prop} {R : Int32 → ((Nat → Nat → Int32) → Prop) → Prop} (hc : c = c0) (hn : ∀ rv h, Q rv h → rQQ n1 T1 K L1 P1 R rv h) : ∀ rv h, rLq n1 T1 P1 L1 (mixJ I K) c Q rv h → rQQ n1 T1 K L1 P1 (Ft I c0 R) rv h := by
  subst hc
  intro rv h hq
  cases c with
  | none => exact hn rv h hq
  | some f =>
    have hq' : rPt n1 T1 P1 L1 f (rFnd (mixJ I K)) rv h := hq
    rw [mix_fnd] at hq'
    exact rq_pt hq' (fun x Y _ z => z)
theorem js_li {m s l c : Nat} : jSm (rLi (rKp I m) s l c) (rLi (rKp (rVT I) m) s l c) := by
  have e : ∀ a, 41 ≤ a → a ≤ 63 → rKp (rVT I) m a = rKp I m a := by
    intro a h1 h2
    by_cases e : a = 60
    · subst e
      unfold rKp
      by_cases h : m = 12
      · rw [if_pos h, if_pos h]; rfl
      · rw [if_neg h, if_neg h]; rfl
    · rw [rKp_an (by omega) e, rKp_an (by omega) e, rVT_at (by omega)]
  have e0 : rKp (rVT I) m 40 20 = rKp I m 40 20 ∧ rKp (rVT I) m 40 24 = rKp I m 40 24 := by
    unfold rKp
    by_cases h : m = 12
    · rw [if_pos h, if_pos h]; exact ⟨rfl, rfl⟩
    · rw [if_neg h, if_neg h]; exact ⟨rfl, rfl⟩
  refine ⟨fun a h1 h2 => ?_, e0.1.symm, e0.2.symm⟩
  unfold rLi
  rw [e 41 (by omega) (by omega), e 47 (by omega) (by omega), e 49 (by omega) (by omega), e 50 (by omega) (by omega)]
  by_cases e1 : a = 50
  · rw [e1, va_up_self, va_up_self]
  · rw [va_up_ne _ _ e1, va_up_ne _ _ e1]
    by_cases e2 : a = 49
    · rw [e2, va_up_self, va_up_self]
    · rw [va_up_ne _ _ e2, va_up_ne _ _ e2]
      by_cases e3 : a = 41
      · rw [e3, va_up_self, va_up_self]
      · rw [va_up_ne _ _ e3, va_up_ne _ _ e3, e a h1 h2]
theorem soT_J {np nf W r cn : Nat} {cl : Nat → Nat} {s : Int32} (hT : TH I np nf W r cn cl) (h : rAsk I s = 0) : soT I L np W cn cl (ix s) = soJ I np W cn cl (ix s) := by
  obtain ⟨s', hs, rfl, e, hrt⟩ := ask_0 h
  rw [e]
  exact soT_eq hT hs hrt
theorem akC_0 {s : Int32} (h : rAkC I s = none) : rAsk I s = 0 := by
  unfold rAkC at h
  split at h
  · assumption
  · cases h
theorem flC_0 {s : Int32} {f : Option Nat} (h : rFlC I s f = none) : rAsk I s = 0 := by
  unfold rFlC at h
  split at h
  · assumption
  · cases h
theorem fl_c {np nf W r cn : Nat} {cl : Nat → Nat} {s : Int32} {KL : Nat → Nat → Int64} (hT : TH I np nf W r cn cl) : rFlC (mixJ I K) s (rFl (soT (mixJ I K) (mixJ L KL) np W cn cl (ix s)) W 0) = rFlC I s (rFl (soJ I np W cn cl (ix s)) W 0) := by
  rw [mix_soT]
  by_cases h : rAsk I s = 0
  · rw [soT_J hT h]; rfl
  · unfold rFlC
    rw [if_neg h, if_neg (show ¬ rAsk (mixJ I K) s = 0 from h)]; rfl
theorem lkC_0 {s t : Int32} (h : rLkC I s t = none) : rAsk I s = 0 ∧ rAsk I t = 0 := by
  unfold rLkC at h
  split at h
  · rename_i h1
    rw [Bool.and_eq_true] at h1
    split at h
    · rename_i h2
      rw [Bool.and_eq_true] at h2
      unfold rAsk
      rw [if_pos h1.1, if_pos h1.2, if_pos h2.1, if_pos h2.2]
      exact ⟨nI_0, nI_0⟩
    · cases h
  · cases h
theorem p_begin (hL : lR n T I L P) (a b x : Int32) : PAIR G mX10_begin mX11_begin 4 10 91 3 [vI a, vI b, vI x] n T I L P := by
  obtain ⟨tw, np, nf, W, r, cn, cl, pn, pl, pg, mn, mW, mr, mc, ml, hN⟩ := hL.2.now
  obtain ⟨m, hm, hm0⟩ := hL.2.kc
  obtain ⟨hT, hP, hM, -, -⟩ := id hN.2.2.1
  have hls : rLs I := fun s hs => by obtain ⟨l, q1, q2, -⟩ := hT.2.2.2.2.2.2.2.2.2.2.2.2.2.2 s hs; exact ⟨l, q1, q2⟩
  have hsz : rSz I := fun s hs => (hL.2.2.2.1.2 s hs).2.2.2.2.2.2
  refine pair_of hL (k_begin hN hm hm0 a b x) (fun _ _ => cq_c) (fun n1 T1 K KL P1 hR => ?_)
  refine ⟨_, r_begin (I := mixJ I K) (L := mixJ L KL) hR hm hm0 a b x, ?_⟩
  exact rq_pst rfl rfl (by rw [mix_kp, mix_beg])
theorem p_go (hL : lR n T I L P) (p s : Int32) : PAIR G mX10_go mX11_go 3 2 10 3 [vI p, vI s] n T I L P := by
  obtain ⟨tw, np, nf, W, r, cn, cl, pn, pl, pg, mn, mW, mr, mc, ml, hN⟩ := hL.2.now
  obtain ⟨m, hm, hm0⟩ := hL.2.kc
  obtain ⟨hT, hP, hM, -, -⟩ := id hN.2.2.1
  have hls : rLs I := fun s hs => by obtain ⟨l, q1, q2, -⟩ := hT.2.2.2.2.2.2.2.2.2.2.2.2.2.2 s hs; exact ⟨l, q1, q2⟩
  have hsz : rSz I := fun s hs => (hL.2.2.2.1.2 s hs).2.2.2.2.2.2
  refine pair_of hL (k_go hN hm hm0 p s) (fun _ _ => cq_c) (fun n1 T1 K KL P1 hR => ?_)
  refine ⟨_, r_go (I := mixJ I K) (L := mixJ L KL) hR hm hm0 hT.1 hT.2.2.1 p s, ?_⟩
  exact rq_pst rfl rfl (by rw [mix_kp, mix_up (by omega) (by omega)]; rfl)
theorem p_group (hL : lR n T I L P) (p s : Int32) : PAIR G mX10_group mX11_group 3 3 12 3 [vI p, vI s] n T I L P := by
  obtain ⟨tw, np, nf, W, r, cn, cl, pn, pl, pg, mn, mW, mr, mc, ml, hN⟩ := hL.2.now
  obtain ⟨m, hm, hm0⟩ := hL.2.kc
  obtain ⟨hT, hP, hM, -, -⟩ := id hN.2.2.1
  have hls : rLs I := fun s hs => by obtain ⟨l, q1, q2, -⟩ := hT.2.2.2.2.2.2.2.2.2.2.2.2.2.2 s hs; exact ⟨l, q1, q2⟩
  have hsz : rSz I := fun s hs => (hL.2.2.2.1.2 s hs).2.2.2.2.2.2
  refine pair_of hL (k_group hN hm hm0 p s) (fun _ _ => cq_c) (fun n1 T1 K KL P1 hR => ?_)
  refine ⟨_, r_group (I := mixJ I K) (L := mixJ L KL) hR hm hm0 p s, ?_⟩
  exact rq_pst rfl rfl (by rw [mix_kp, mix_up (by omega) (by omega)]; rfl)
theorem p_sign (hL : lR n T I L P) (s v : Int32) : PAIR G mX10_sign mX11_sign 4 4 32 3 [vI s, vI v] n T I L P := by
  obtain ⟨tw, np, nf, W, r, cn, cl, pn, pl, pg, mn, mW, mr, mc, ml, hN⟩ := hL.2.now
  obtain ⟨m, hm, hm0⟩ := hL.2.kc
  obtain ⟨hT, hP, hM, -, -⟩ := id hN.2.2.1
  have hls : rLs I := fun s hs => by obtain ⟨l, q1, q2, -⟩ := hT.2.2.2.2.2.2.2.2.2.2.2.2.2.2 s hs; exact ⟨l, q1, q2⟩
  have hsz : rSz I := fun s hs => (hL.2.2.2.1.2 s hs).2.2.2.2.2.2
  refine pair_of hL (k_sign hN hm hm0 s v) (fun _ _ => cq_c) (fun n1 T1 K KL P1 hR => ?_)
  refine ⟨_, r_sign (I := mixJ I K) (L := mixJ L KL) hR hm hm0 hls s v, ?_⟩
  exact rq_pst rfl rfl (by rw [mix_kp, mix_up (by omega) (by omega), mix_up (by omega) (by omega)]; rfl)
theorem p_blank (hL : lR n T I L P) (s : Int32) : PAIR G mX10_blank mX11_blank 3 4 14 3 [vI s] n T I L P := by
  obtain ⟨tw, np, nf, W, r, cn, cl, pn, pl, pg, mn, mW, mr, mc, ml, hN⟩ := hL.2.now
  obtain ⟨m, hm, hm0⟩ := hL.2.kc
  obtain ⟨hT, hP, hM, -, -⟩ := id hN.2.2.1
  have hls : rLs I := fun s hs => by obtain ⟨l, q1, q2, -⟩ := hT.2.2.2.2.2.2.2.2.2.2.2.2.2.2 s hs; exact ⟨l, q1, q2⟩
  have hsz : rSz I := fun s hs => (hL.2.2.2.1.2 s hs).2.2.2.2.2.2
  refine pair_of hL (k_blank hN hm hm0 s) (fun _ _ => cq_c) (fun n1 T1 K KL P1 hR => ?_)
  refine ⟨_, r_blank (I := mixJ I K) (L := mixJ L KL) hR hm hm0 s, ?_⟩
  exact rq_pst rfl rfl (by rw [mix_kp, mix_up (by omega) (by omega)]; rfl)
theorem p_write (hL : lR n T I L P) (s t : Int32) : PAIR G mX10_write mX11_write 3 4 28 3 [vI s, vI t] n T I L P := by
  obtain ⟨tw, np, nf, W, r, cn, cl, pn, pl, pg, mn, mW, mr, mc, ml, hN⟩ := hL.2.now
  obtain ⟨m, hm, hm0⟩ := hL.2.kc
  obtain ⟨hT, hP, hM, -, -⟩ := id hN.2.2.1
  have hls : rLs I := fun s hs => by obtain ⟨l, q1, q2, -⟩ := hT.2.2.2.2.2.2.2.2.2.2.2.2.2.2 s hs; exact ⟨l, q1, q2⟩
  have hsz : rSz I := fun s hs => (hL.2.2.2.1.2 s hs).2.2.2.2.2.2
  refine pair_of hL (k_write hN hm hm0 s t) (fun _ _ => cq_c) (fun n1 T1 K KL P1 hR => ?_)
  refine ⟨_, r_write (I := mixJ I K) (L := mixJ L KL) hR hm hm0 hsz s t, ?_⟩
  exact rq_pst rfl rfl (by rw [mix_kp, mix_up (by omega) (by omega), mix_up (by omega) (by omega)]; rfl)
theorem p_as (hL : lR n T I L P) (s i k : Int32) : PAIR G mX10_as mX11_as 2 0 0 2 [vI s, vI i, vI k] n T I L P := by
  obtain ⟨tw, np, nf, W, r, cn, cl, pn, pl, pg, mn, mW, mr, mc, ml, hN⟩ := hL.2.now
  obtain ⟨m, hm, hm0⟩ := hL.2.kc
  obtain ⟨hT, hP, hM, -, -⟩ := id hN.2.2.1
  have hls : rLs I := fun s hs => by obtain ⟨l, q1, q2, -⟩ := hT.2.2.2.2.2.2.2.2.2.2.2.2.2.2 s hs; exact ⟨l, q1, q2⟩
  have hsz : rSz I := fun s hs => (hL.2.2.2.1.2 s hs).2.2.2.2.2.2
  refine pair_of hL (k_as hN s i k) (fun _ _ => cq_c) (fun n1 T1 K KL P1 hR => ?_)
  refine ⟨_, r_as (I := mixJ I K) (L := mixJ L KL) hR hls s i k, ?_⟩
  exact rq_pst rfl rfl rfl
theorem p_wrong (hL : lR n T I L P) (s : Int32) : PAIR G mX10_wrong mX11_wrong 3 0 0 2 [vI s] n T I L P := by
  obtain ⟨tw, np, nf, W, r, cn, cl, pn, pl, pg, mn, mW, mr, mc, ml, hN⟩ := hL.2.now
  obtain ⟨m, hm, hm0⟩ := hL.2.kc
  obtain ⟨hT, hP, hM, -, -⟩ := id hN.2.2.1
  have hls : rLs I := fun s hs => by obtain ⟨l, q1, q2, -⟩ := hT.2.2.2.2.2.2.2.2.2.2.2.2.2.2 s hs; exact ⟨l, q1, q2⟩
  have hsz : rSz I := fun s hs => (hL.2.2.2.1.2 s hs).2.2.2.2.2.2
  refine pair_of hL (k_wrong hN s) (fun _ _ => cq_c) (fun n1 T1 K KL P1 hR => ?_)
  refine ⟨_, r_wrong (I := mixJ I K) (L := mixJ L KL) hR hls s, ?_⟩
  exact rq_pst rfl rfl rfl
theorem p_see (hL : lR n T I L P) (p f : Int32) : PAIR G mX10_see mX11_see 7 5 275 4 [vI p, vI f] n T I L P := by
  obtain ⟨tw, np, nf, W, r, cn, cl, pn, pl, pg, mn, mW, mr, mc, ml, hN⟩ := hL.2.now
  obtain ⟨m, hm, hm0⟩ := hL.2.kc
  obtain ⟨hT, hP, hM, -, -⟩ := id hN.2.2.1
  have hls : rLs I := fun s hs => by obtain ⟨l, q1, q2, -⟩ := hT.2.2.2.2.2.2.2.2.2.2.2.2.2.2 s hs; exact ⟨l, q1, q2⟩
  have hsz : rSz I := fun s hs => (hL.2.2.2.1.2 s hs).2.2.2.2.2.2
  refine pair_of hL (k_see hN hm hm0 p f) (fun _ _ => cq_l) (fun n1 T1 K KL P1 hR => ?_)
  refine ⟨_, r_see (I := mixJ I K) (L := mixJ L KL) hR (mix_TH hT) hm hm0 p f, ?_⟩
  exact rq_lq rfl rfl rfl rfl rfl
theorem p_tell (hL : lR n T I L P) (a b s : Int32) : PAIR G mX10_tell mX11_tell 96 5 275 36 [vI a, vI b, vI s] n T I L P := by
  obtain ⟨tw, np, nf, W, r, cn, cl, pn, pl, pg, mn, mW, mr, mc, ml, hN⟩ := hL.2.now
  obtain ⟨m, hm, hm0⟩ := hL.2.kc
  obtain ⟨hT, hP, hM, -, -⟩ := id hN.2.2.1
  have hls : rLs I := fun s hs => by obtain ⟨l, q1, q2, -⟩ := hT.2.2.2.2.2.2.2.2.2.2.2.2.2.2 s hs; exact ⟨l, q1, q2⟩
  have hsz : rSz I := fun s hs => (hL.2.2.2.1.2 s hs).2.2.2.2.2.2
  refine pair_of hL (k_tell hN L hm hm0 a b s) (fun _ _ => cq_t) (fun n1 T1 K KL P1 hR => ?_)
  refine ⟨_, r_tell (I := mixJ I K) (L := mixJ L KL) hR (mix_TH hT) hm hm0 a b s, ?_⟩
  exact rq_fs mix_opC (rq_tl (by rw [mix_VT]; rfl) (by rw [mix_VT]; rfl) rfl (by rw [mix_vwB, mix_soT]) (by rw [mix_soT]))
theorem p_openly (hL : lR n T I L P) (a b s : Int32) : PAIR G mX10_openly mX11_openly 96 5 275 36 [vI a, vI b, vI s] n T I L P := by
  obtain ⟨tw, np, nf, W, r, cn, cl, pn, pl, pg, mn, mW, mr, mc, ml, hN⟩ := hL.2.now
  obtain ⟨m, hm, hm0⟩ := hL.2.kc
  obtain ⟨hT, hP, hM, -, -⟩ := id hN.2.2.1
  have hls : rLs I := fun s hs => by obtain ⟨l, q1, q2, -⟩ := hT.2.2.2.2.2.2.2.2.2.2.2.2.2.2 s hs; exact ⟨l, q1, q2⟩
  have hsz : rSz I := fun s hs => (hL.2.2.2.1.2 s hs).2.2.2.2.2.2
  refine pair_of hL (k_openly hN L hm hm0 a b s) (fun _ _ => cq_l) (fun n1 T1 K KL P1 hR => ?_)
  refine ⟨_, r_openly (I := mixJ I K) (L := mixJ L KL) hR (mix_TH hT) hm hm0 a b s, ?_⟩
  exact rq_lq mix_opC (by rw [mix_vwB, mix_soT]) mix_soT rfl rfl
theorem p_cry (hL : lR n T I L P) (a s : Int32) : PAIR G mX10_cry mX11_cry 96 5 275 36 [vI a, vI s] n T I L P := by
  obtain ⟨tw, np, nf, W, r, cn, cl, pn, pl, pg, mn, mW, mr, mc, ml, hN⟩ := hL.2.now
  obtain ⟨m, hm, hm0⟩ := hL.2.kc
  obtain ⟨hT, hP, hM, -, -⟩ := id hN.2.2.1
  have hls : rLs I := fun s hs => by obtain ⟨l, q1, q2, -⟩ := hT.2.2.2.2.2.2.2.2.2.2.2.2.2.2 s hs; exact ⟨l, q1, q2⟩
  have hsz : rSz I := fun s hs => (hL.2.2.2.1.2 s hs).2.2.2.2.2.2
  refine pair_of hL (k_cry hN L hm hm0 a s) (fun _ _ => cq_l) (fun n1 T1 K KL P1 hR => ?_)
  refine ⟨_, r_cry (I := mixJ I K) (L := mixJ L KL) hR (mix_TH hT) hm hm0 a s, ?_⟩
  exact rq_lq mix_crC (by rw [mix_vwB, mix_soT]) rfl rfl rfl
theorem p_lie (hL : lR n T I L P) (p s : Int32) : PAIR G mX10_lie mX11_lie 96 3 26 36 [vI p, vI s] n T I L P := by
  obtain ⟨tw, np, nf, W, r, cn, cl, pn, pl, pg, mn, mW, mr, mc, ml, hN⟩ := hL.2.now
  obtain ⟨m, hm, hm0⟩ := hL.2.kc
  obtain ⟨hT, hP, hM, -, -⟩ := id hN.2.2.1
  have hls : rLs I := fun s hs => by obtain ⟨l, q1, q2, -⟩ := hT.2.2.2.2.2.2.2.2.2.2.2.2.2.2 s hs; exact ⟨l, q1, q2⟩
  have hsz : rSz I := fun s hs => (hL.2.2.2.1.2 s hs).2.2.2.2.2.2
  refine pair_of hL (k_lie hN L hm hm0 p s) (fun _ _ => cq_c) (fun n1 T1 K KL P1 hR => ?_)
  refine ⟨_, r_lie (I := mixJ I K) (L := mixJ L KL) hR (mix_TH hT) hm hm0 p s, ?_⟩
  exact rq_pm2 (by rw [mix_vwB, mix_soT]; rfl) (fun _ => rfl) (by rw [mix_VT, mix_kp, mix_li]; rfl) js_li
theorem p_clashed (hL : lR n T I L P) (c p : Int32) : PAIR G mX10_clashed mX11_clashed 49 0 0 18 [vI c, vI p] n T I L P := by
  obtain ⟨tw, np, nf, W, r, cn, cl, pn, pl, pg, mn, mW, mr, mc, ml, hN⟩ := hL.2.now
  obtain ⟨m, hm, hm0⟩ := hL.2.kc
  obtain ⟨hT, hP, hM, -, -⟩ := id hN.2.2.1
  have hls : rLs I := fun s hs => by obtain ⟨l, q1, q2, -⟩ := hT.2.2.2.2.2.2.2.2.2.2.2.2.2.2 s hs; exact ⟨l, q1, q2⟩
  have hsz : rSz I := fun s hs => (hL.2.2.2.1.2 s hs).2.2.2.2.2.2
  refine pair_of hL (k_clashed hN L c p) (fun _ _ => cq_c) (fun n1 T1 K KL P1 hR => ?_)
  refine ⟨_, r_clashed (I := mixJ I K) (L := mixJ L KL) hR (mix_TH hT) c p, ?_⟩
  exact rq_pm rfl (by rw [mix_clV]) rfl
theorem p_swear (hL : lR n T I L P) (p f : Int32) : PAIR G mX10_swear mX11_swear 3 2 10 3 [vI p, vI f] n T I L P := by
  obtain ⟨tw, np, nf, W, r, cn, cl, pn, pl, pg, mn, mW, mr, mc, ml, hN⟩ := hL.2.now
  obtain ⟨m, hm, hm0⟩ := hL.2.kc
  obtain ⟨hT, hP, hM, -, -⟩ := id hN.2.2.1
  have hls : rLs I := fun s hs => by obtain ⟨l, q1, q2, -⟩ := hT.2.2.2.2.2.2.2.2.2.2.2.2.2.2 s hs; exact ⟨l, q1, q2⟩
  have hsz : rSz I := fun s hs => (hL.2.2.2.1.2 s hs).2.2.2.2.2.2
  refine pair_of hL (k_swear hN hm hm0 p f) (fun _ _ => cq_c) (fun n1 T1 K KL P1 hR => ?_)
  refine ⟨_, r_swear (I := mixJ I K) (L := mixJ L KL) hR hm hm0 hT.1 hT.2.2.1 p f, ?_⟩
  exact rq_pst rfl rfl (by rw [mix_kp, mix_up (by omega) (by omega)]; rfl)
theorem p_pact (hL : lR n T I L P) (s g : Int32) : PAIR G mX10_pact mX11_pact 4 3 22 3 [vI s, vI g] n T I L P := by
  obtain ⟨tw, np, nf, W, r, cn, cl, pn, pl, pg, mn, mW, mr, mc, ml, hN⟩ := hL.2.now
  obtain ⟨m, hm, hm0⟩ := hL.2.kc
  obtain ⟨hT, hP, hM, -, -⟩ := id hN.2.2.1
  have hls : rLs I := fun s hs => by obtain ⟨l, q1, q2, -⟩ := hT.2.2.2.2.2.2.2.2.2.2.2.2.2.2 s hs; exact ⟨l, q1, q2⟩
  have hsz : rSz I := fun s hs => (hL.2.2.2.1.2 s hs).2.2.2.2.2.2
  refine pair_of hL (k_pact hN hm hm0 s g) (fun _ _ => cq_c) (fun n1 T1 K KL P1 hR => ?_)
  refine ⟨_, r_pact (I := mixJ I K) (L := mixJ L KL) hR hm hm0 hls hP.1 hP.2.1 s g, ?_⟩
  exact rq_pst rfl rfl (by rw [mix_kp, mix_up (by omega) (by omega), mix_up (by omega) (by omega), mix_up (by omega) (by omega), mix_up (by omega) (by omega)]; rfl)
theorem p_binding (hL : lR n T I L P) : PAIR G mX10_binding mX11_binding 95 0 0 34 [] n T I L P := by
  obtain ⟨tw, np, nf, W, r, cn, cl, pn, pl, pg, mn, mW, mr, mc, ml, hN⟩ := hL.2.now
  obtain ⟨m, hm, hm0⟩ := hL.2.kc
  obtain ⟨hT, hP, hM, -, -⟩ := id hN.2.2.1
  have hls : rLs I := fun s hs => by obtain ⟨l, q1, q2, -⟩ := hT.2.2.2.2.2.2.2.2.2.2.2.2.2.2 s hs; exact ⟨l, q1, q2⟩
  have hsz : rSz I := fun s hs => (hL.2.2.2.1.2 s hs).2.2.2.2.2.2
  refine pair_of hL (k_binding hN L) (fun _ _ => cq_c) (fun n1 T1 K KL P1 hR => ?_)
  refine ⟨_, r_binding (I := mixJ I K) (L := mixJ L KL) hR (mix_TH hT) (mix_PH hP), ?_⟩
  exact fun rv h hq => rq_pt (J0 := I) hq (fun x Y _ z => by rw [mix_pa]; exact z)
theorem p_holds (hL : lR n T I L P) (s : Int32) : PAIR G mX10_holds mX11_holds 96 0 0 35 [vI s] n T I L P := by
  obtain ⟨tw, np, nf, W, r, cn, cl, pn, pl, pg, mn, mW, mr, mc, ml, hN⟩ := hL.2.now
  obtain ⟨m, hm, hm0⟩ := hL.2.kc
  obtain ⟨hT, hP, hM, -, -⟩ := id hN.2.2.1
  have hls : rLs I := fun s hs => by obtain ⟨l, q1, q2, -⟩ := hT.2.2.2.2.2.2.2.2.2.2.2.2.2.2 s hs; exact ⟨l, q1, q2⟩
  have hsz : rSz I := fun s hs => (hL.2.2.2.1.2 s hs).2.2.2.2.2.2
  refine pair_of hL (k_holds hN s) (fun _ _ => cq_c) (fun n1 T1 K KL P1 hR => ?_)
  refine ⟨_, r_holds (I := mixJ I K) (L := mixJ L KL) hR (mix_TH hT) s, ?_⟩
  exact rq_pm2 rfl (fun q => by rw [mix_soT, soT_J hT (akC_0 q)]) rfl jSm.rf
theorem p_many (hL : lR n T I L P) (s : Int32) : PAIR G mX10_many mX11_many 96 0 0 35 [vI s] n T I L P := by
  obtain ⟨tw, np, nf, W, r, cn, cl, pn, pl, pg, mn, mW, mr, mc, ml, hN⟩ := hL.2.now
  obtain ⟨m, hm, hm0⟩ := hL.2.kc
  obtain ⟨hT, hP, hM, -, -⟩ := id hN.2.2.1
  have hls : rLs I := fun s hs => by obtain ⟨l, q1, q2, -⟩ := hT.2.2.2.2.2.2.2.2.2.2.2.2.2.2 s hs; exact ⟨l, q1, q2⟩
  have hsz : rSz I := fun s hs => (hL.2.2.2.1.2 s hs).2.2.2.2.2.2
  refine pair_of hL (k_many hN s) (fun _ _ => cq_c) (fun n1 T1 K KL P1 hR => ?_)
  refine ⟨_, r_many (I := mixJ I K) (L := mixJ L KL) hR (mix_TH hT) s, ?_⟩
  exact rq_pm2 rfl (fun q => by rw [mix_soT, soT_J hT (akC_0 q)]) rfl jSm.rf
theorem p_fails (hL : lR n T I L P) (s : Int32) : PAIR G mX10_fails mX11_fails 96 0 0 35 [vI s] n T I L P := by
  obtain ⟨tw, np, nf, W, r, cn, cl, pn, pl, pg, mn, mW, mr, mc, ml, hN⟩ := hL.2.now
  obtain ⟨m, hm, hm0⟩ := hL.2.kc
  obtain ⟨hT, hP, hM, -, -⟩ := id hN.2.2.1
  have hls : rLs I := fun s hs => by obtain ⟨l, q1, q2, -⟩ := hT.2.2.2.2.2.2.2.2.2.2.2.2.2.2 s hs; exact ⟨l, q1, q2⟩
  have hsz : rSz I := fun s hs => (hL.2.2.2.1.2 s hs).2.2.2.2.2.2
  refine pair_of hL (k_fails hN s) (fun _ _ => cq_c) (fun n1 T1 K KL P1 hR => ?_)
  refine ⟨_, r_fails (I := mixJ I K) (L := mixJ L KL) hR (mix_TH hT) s, ?_⟩
  exact rq_pm2 (fl_c hT) (fun q => by rw [mix_soT, soT_J hT (flC_0 q)]) rfl jSm.rf
theorem p_like (hL : lR n T I L P) (s t : Int32) : PAIR G mX10_like mX11_like 96 0 0 35 [vI s, vI t] n T I L P := by
  obtain ⟨tw, np, nf, W, r, cn, cl, pn, pl, pg, mn, mW, mr, mc, ml, hN⟩ := hL.2.now
  obtain ⟨m, hm, hm0⟩ := hL.2.kc
  obtain ⟨hT, hP, hM, -, -⟩ := id hN.2.2.1
  have hls : rLs I := fun s hs => by obtain ⟨l, q1, q2, -⟩ := hT.2.2.2.2.2.2.2.2.2.2.2.2.2.2 s hs; exact ⟨l, q1, q2⟩
  have hsz : rSz I := fun s hs => (hL.2.2.2.1.2 s hs).2.2.2.2.2.2
  refine pair_of hL (k_like hN s t) (fun _ _ => cq_c) (fun n1 T1 K KL P1 hR => ?_)
  refine ⟨_, r_like (I := mixJ I K) (L := mixJ L KL) hR (mix_TH hT) s t, ?_⟩
  exact rq_pm2 rfl (fun q => by rw [mix_soT, mix_soT, soT_J hT (lkC_0 q).1, soT_J hT (lkC_0 q).2]) rfl jSm.rf
theorem p_world (hL : lR n T I L P) (w p : Int32) : PAIR G mX10_world mX11_world 3 0 0 1 [vI w, vI p] n T I L P := by
  obtain ⟨tw, np, nf, W, r, cn, cl, pn, pl, pg, mn, mW, mr, mc, ml, hN⟩ := hL.2.now
  obtain ⟨m, hm, hm0⟩ := hL.2.kc
  obtain ⟨hT, hP, hM, -, -⟩ := id hN.2.2.1
  have hls : rLs I := fun s hs => by obtain ⟨l, q1, q2, -⟩ := hT.2.2.2.2.2.2.2.2.2.2.2.2.2.2 s hs; exact ⟨l, q1, q2⟩
  have hsz : rSz I := fun s hs => (hL.2.2.2.1.2 s hs).2.2.2.2.2.2
  refine pair_of hL (k_world hN w p) (fun _ _ => cq_c) (fun n1 T1 K KL P1 hR => ?_)
  refine ⟨_, r_world (I := mixJ I K) (L := mixJ L KL) hR hT.1 hT.2.2.1 hT.2.2.2.2.2.2.1 hT.2.2.2.2.2.2.2.2.1 w p, ?_⟩
  exact rq_pst rfl rfl rfl
theorem p_lessons (hL : lR n T I L P) (s : Int32) : PAIR G mX10_lessons mX11_lessons 96 0 0 39 [vI s] n T I L P := by
  obtain ⟨tw, np, nf, W, r, cn, cl, pn, pl, pg, mn, mW, mr, mc, ml, hN⟩ := hL.2.now
  obtain ⟨m, hm, hm0⟩ := hL.2.kc
  obtain ⟨hT, hP, hM, -, -⟩ := id hN.2.2.1
  have hls : rLs I := fun s hs => by obtain ⟨l, q1, q2, -⟩ := hT.2.2.2.2.2.2.2.2.2.2.2.2.2.2 s hs; exact ⟨l, q1, q2⟩
  have hsz : rSz I := fun s hs => (hL.2.2.2.1.2 s hs).2.2.2.2.2.2
  refine pair_of hL (k_lessons hN s) (fun _ _ => cq_t) (fun n1 T1 K KL P1 hR => ?_)
  refine ⟨_, r_lessons (I := mixJ I K) (L := mixJ L KL) hR (mix_TH hT) s, ?_⟩
  exact rq_fs rfl rq_le
theorem p_lesson (hL : lR n T I L P) (s i : Int32) : PAIR G mX10_lesson mX11_lesson 96 0 0 39 [vI s, vI i] n T I L P := by
  obtain ⟨tw, np, nf, W, r, cn, cl, pn, pl, pg, mn, mW, mr, mc, ml, hN⟩ := hL.2.now
  obtain ⟨m, hm, hm0⟩ := hL.2.kc
  obtain ⟨hT, hP, hM, -, -⟩ := id hN.2.2.1
  have hls : rLs I := fun s hs => by obtain ⟨l, q1, q2, -⟩ := hT.2.2.2.2.2.2.2.2.2.2.2.2.2.2 s hs; exact ⟨l, q1, q2⟩
  have hsz : rSz I := fun s hs => (hL.2.2.2.1.2 s hs).2.2.2.2.2.2
  refine pair_of hL (k_lesson hN s i) (fun _ _ => cq_t) (fun n1 T1 K KL P1 hR => ?_)
  refine ⟨_, r_lesson (I := mixJ I K) (L := mixJ L KL) hR (mix_TH hT) s i, ?_⟩
  exact rq_fs rfl rq_lf
theorem p_mark (hL : lR n T I L P) : PAIR G mX10_mark mX11_mark 3 2 20 3 [] n T I L P := by
  obtain ⟨tw, np, nf, W, r, cn, cl, pn, pl, pg, mn, mW, mr, mc, ml, hN⟩ := hL.2.now
  obtain ⟨m, hm, hm0⟩ := hL.2.kc
  obtain ⟨hT, hP, hM, -, -⟩ := id hN.2.2.1
  have hls : rLs I := fun s hs => by obtain ⟨l, q1, q2, -⟩ := hT.2.2.2.2.2.2.2.2.2.2.2.2.2.2 s hs; exact ⟨l, q1, q2⟩
  have hsz : rSz I := fun s hs => (hL.2.2.2.1.2 s hs).2.2.2.2.2.2
  refine pair_of hL (k_mark hN hm hm0) (fun _ _ => cq_c) (fun n1 T1 K KL P1 hR => ?_)
  refine ⟨_, r_mark (I := mixJ I K) (L := mixJ L KL) hR hm hm0 hM.2.1 hM.1, ?_⟩
  exact rq_pst rfl rfl (by rw [mix_kp, mix_mk])
theorem p_then (hL : lR n T I L P) (m2 s : Int32) : PAIR G mX10_then mX11_then 96 0 0 36 [vI m2, vI s] n T I L P := by
  obtain ⟨tw, np, nf, W, r, cn, cl, pn, pl, pg, mn, mW, mr, mc, ml, hN⟩ := hL.2.now
  obtain ⟨m, hm, hm0⟩ := hL.2.kc
  obtain ⟨hT, hP, hM, -, -⟩ := id hN.2.2.1
  have hls : rLs I := fun s hs => by obtain ⟨l, q1, q2, -⟩ := hT.2.2.2.2.2.2.2.2.2.2.2.2.2.2 s hs; exact ⟨l, q1, q2⟩
  have hsz : rSz I := fun s hs => (hL.2.2.2.1.2 s hs).2.2.2.2.2.2
  refine pair_of hL (k_then hN L m2 s) (fun _ _ => cq_c) (fun n1 T1 K KL P1 hR => ?_)
  refine ⟨_, r_then (I := mixJ I K) (L := mixJ L KL) hR (mix_TH hT) (mix_MH hM) m2 s, ?_⟩
  exact rq_pm rfl (by rw [mix_soM]) rfl
theorem p_since (hL : lR n T I L P) (s : Int32) : PAIR G mX10_since mX11_since 96 0 0 36 [vI s] n T I L P := by
  obtain ⟨tw, np, nf, W, r, cn, cl, pn, pl, pg, mn, mW, mr, mc, ml, hN⟩ := hL.2.now
  obtain ⟨m, hm, hm0⟩ := hL.2.kc
  obtain ⟨hT, hP, hM, -, -⟩ := id hN.2.2.1
  have hls : rLs I := fun s hs => by obtain ⟨l, q1, q2, -⟩ := hT.2.2.2.2.2.2.2.2.2.2.2.2.2.2 s hs; exact ⟨l, q1, q2⟩
  have hsz : rSz I := fun s hs => (hL.2.2.2.1.2 s hs).2.2.2.2.2.2
  refine pair_of hL (k_since hN s) (fun _ _ => cq_c) (fun n1 T1 K KL P1 hR => ?_)
  refine ⟨_, r_since (I := mixJ I K) (L := mixJ L KL) hR (mix_TH hT) (mix_MH hM) s, ?_⟩
  exact rq_pm rfl rfl rfl
theorem p_sheet (hL : lR n T I L P) (s b x : Int32) : PAIR G mX10_sheet mX11_sheet 2 0 0 2 [vI s, vI b, vI x] n T I L P := by
  obtain ⟨tw, np, nf, W, r, cn, cl, pn, pl, pg, mn, mW, mr, mc, ml, hN⟩ := hL.2.now
  obtain ⟨m, hm, hm0⟩ := hL.2.kc
  obtain ⟨hT, hP, hM, -, -⟩ := id hN.2.2.1
  have hls : rLs I := fun s hs => by obtain ⟨l, q1, q2, -⟩ := hT.2.2.2.2.2.2.2.2.2.2.2.2.2.2 s hs; exact ⟨l, q1, q2⟩
  have hsz : rSz I := fun s hs => (hL.2.2.2.1.2 s hs).2.2.2.2.2.2
  refine pair_of hL (k_sheet hN s b x) (fun _ _ => cq_c) (fun n1 T1 K KL P1 hR => ?_)
  refine ⟨_, r_sheet (I := mixJ I K) (L := mixJ L KL) hR s b x, ?_⟩
  exact rq_pst rfl rfl (by rw [mix_up (by omega) (by omega), mix_up (by omega) (by omega), mix_up (by omega) (by omega)]; rfl)
theorem p_put (hL : lR n T I L P) (s i v : Int32) : PAIR G mX10_put mX11_put 2 0 0 2 [vI s, vI i, vI v] n T I L P := by
  obtain ⟨tw, np, nf, W, r, cn, cl, pn, pl, pg, mn, mW, mr, mc, ml, hN⟩ := hL.2.now
  obtain ⟨m, hm, hm0⟩ := hL.2.kc
  obtain ⟨hT, hP, hM, -, -⟩ := id hN.2.2.1
  have hls : rLs I := fun s hs => by obtain ⟨l, q1, q2, -⟩ := hT.2.2.2.2.2.2.2.2.2.2.2.2.2.2 s hs; exact ⟨l, q1, q2⟩
  have hsz : rSz I := fun s hs => (hL.2.2.2.1.2 s hs).2.2.2.2.2.2
  refine pair_of hL (k_put hN s i v) (fun _ _ => cq_c) (fun n1 T1 K KL P1 hR => ?_)
  refine ⟨_, r_put (I := mixJ I K) (L := mixJ L KL) hR hsz s i v, ?_⟩
  exact rq_pst rfl rfl (by rw [mix_up (by omega) (by omega)]; rfl)
theorem p_copy (hL : lR n T I L P) (s f t o x : Int32) : PAIR G mX10_copy mX11_copy 2 0 0 2 [vI s, vI f, vI t, vI o, vI x] n T I L P := by
  obtain ⟨tw, np, nf, W, r, cn, cl, pn, pl, pg, mn, mW, mr, mc, ml, hN⟩ := hL.2.now
  obtain ⟨m, hm, hm0⟩ := hL.2.kc
  obtain ⟨hT, hP, hM, -, -⟩ := id hN.2.2.1
  have hls : rLs I := fun s hs => by obtain ⟨l, q1, q2, -⟩ := hT.2.2.2.2.2.2.2.2.2.2.2.2.2.2 s hs; exact ⟨l, q1, q2⟩
  have hsz : rSz I := fun s hs => (hL.2.2.2.1.2 s hs).2.2.2.2.2.2
  refine pair_of hL (k_copy hN s f t o x) (fun _ _ => cq_c) (fun n1 T1 K KL P1 hR => ?_)
  refine ⟨_, r_copy (I := mixJ I K) (L := mixJ L KL) hR hsz s f t o x, ?_⟩
  exact rq_pst rfl rfl (by rw [mix_up (by omega) (by omega), mix_up (by omega) (by omega)]; rfl)
theorem p_all (hL : lR n T I L P) (w : Int32) : PAIR G mX10_all mX11_all 1 0 0 1 [vI w] n T I L P := by
  obtain ⟨tw, np, nf, W, r, cn, cl, pn, pl, pg, mn, mW, mr, mc, ml, hN⟩ := hL.2.now
  obtain ⟨m, hm, hm0⟩ := hL.2.kc
  obtain ⟨hT, hP, hM, -, -⟩ := id hN.2.2.1
  have hls : rLs I := fun s hs => by obtain ⟨l, q1, q2, -⟩ := hT.2.2.2.2.2.2.2.2.2.2.2.2.2.2 s hs; exact ⟨l, q1, q2⟩
  have hsz : rSz I := fun s hs => (hL.2.2.2.1.2 s hs).2.2.2.2.2.2
  refine pair_of hL (k_all hN w) (fun _ _ => cq_c) (fun n1 T1 K KL P1 hR => ?_)
  refine ⟨_, r_all (I := mixJ I K) (L := mixJ L KL) hR w, ?_⟩
  exact rq_pst rfl rfl rfl
theorem p_known (hL : lR n T I L P) (p : Int32) (wh : Bool) : PAIR G mX10_known mX11_known 2 0 0 2 [vI p, vI (tkb wh)] n T I L P := by
  obtain ⟨tw, np, nf, W, r, cn, cl, pn, pl, pg, mn, mW, mr, mc, ml, hN⟩ := hL.2.now
  obtain ⟨m, hm, hm0⟩ := hL.2.kc
  obtain ⟨hT, hP, hM, -, -⟩ := id hN.2.2.1
  have hls : rLs I := fun s hs => by obtain ⟨l, q1, q2, -⟩ := hT.2.2.2.2.2.2.2.2.2.2.2.2.2.2 s hs; exact ⟨l, q1, q2⟩
  have hsz : rSz I := fun s hs => (hL.2.2.2.1.2 s hs).2.2.2.2.2.2
  refine pair_of hL (k_known hN L p wh) (fun _ _ => cq_c) (fun n1 T1 K KL P1 hR => ?_)
  refine ⟨_, r_known (I := mixJ I K) (L := mixJ L KL) hR (mix_TH hT) p wh, ?_⟩
  exact rq_pm rfl (by rw [mix_kb]) rfl
theorem p_undo (hL : lR n T I L P) : PAIR G mX10_undo mX11_undo 2 0 0 2 [] n T I L P := by
  obtain ⟨m, hm, hm0⟩ := hL.2.kc
  cases m with
  | zero => exact pair_of hL (k_undo0 (v := 0) (J' := I) hL.2 hm0) (fun _ _ => cq_c) (fun n1 T1 K KL P1 hR => ⟨_, r_undo0 (I := mixJ I K) (L := mixJ L KL) hR hm0, rq_pst (c := some (-100006)) (v := 0) (I' := mixJ I K) rfl rfl rfl⟩)
  | succ m => exact pair_of hL (k_undo hL.2 (by omega) hm0) (fun _ _ => cq_c) (fun n1 T1 K KL P1 hR => ⟨_, r_undo (I := mixJ I K) (L := mixJ L KL) hR (by omega) hm0, rq_pst (c := none) (v := nI m) rfl rfl mix_un⟩)
end PAIRS2
