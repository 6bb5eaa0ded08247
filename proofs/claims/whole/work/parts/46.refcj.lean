/-! ===== the reference: tell, the whole ===== -/
theorem cntR_idx (R : Nat → Bool) {w W : Nat} (h : w ≤ W) : cntR R w ≤ cntR R W := by
  induction W with
  | zero => obtain rfl : w = 0 := by omega
            exact Nat.le_refl _
  | succ W ih =>
    by_cases e : w = W + 1
    · subst e; exact Nat.le_refl _
    · have := ih (by omega); rw [cntR.eq_2 R W]; omega
def rT2 (kw : Nat → Bool) (a b : Nat → Int32) (g : Nat → Int32) : Nat → Nat → Int32
  | 0 => g
  | w + 1 => if kw w then va_up (va_up (rT2 kw a b g w) (w + cntR kw w) (a w)) (w + cntR kw w + 1) (b w) else va_up (rT2 kw a b g w) (w + cntR kw w) (a w)
theorem rTc_2 (kw : Nat → Bool) (g : Nat → Int32) (W : Nat) : rTc kw g W = rT2 kw nI nI g W := by
  induction W with
  | zero => rfl
  | succ W ih => rw [rTc, rT2, ih]
theorem rTw_2 (kw xx : Nat → Bool) (g : Nat → Int32) (W : Nat) : rTw kw xx g W = rT2 kw (fun _ => nI 0) (fun w => if xx w then nI 2 else nI 1) g W := by
  induction W with
  | zero => rfl
  | succ W ih => rw [rTw, rT2, ih]
theorem rT2_at {kw : Nat → Bool} {a b g : Nat → Int32} {W w : Nat} (hw : w < W) : rT2 kw a b g W (w + cntR kw w) = a w ∧ (kw w = true → rT2 kw a b g W (w + cntR kw w + 1) = b w) := by
  induction W with
  | zero => omega
  | succ W ih =>
    by_cases e : w = W
    · subst e
      cases e : kw w with
      | true =>
        rw [rT2, if_pos e]
        exact ⟨by rw [va_up_ne _ _ (by omega)]; exact if_pos rfl, fun _ => if_pos rfl⟩
      | false =>
        rw [rT2, if_neg (by rw [e]; decide)]
        exact ⟨if_pos rfl, fun q => by cases q⟩
    · obtain ⟨i1, i2⟩ := ih (by omega)
      have hm := cntR_idx kw (show w + 1 ≤ W by omega)
      rw [cntR] at hm
      cases e : kw W with
      | true =>
        rw [rT2, if_pos e]
        refine ⟨by rw [va_up_ne _ _ (by omega), va_up_ne _ _ (by omega)]; exact i1, fun q => ?_⟩
        rw [if_pos q] at hm
        rw [va_up_ne _ _ (by omega), va_up_ne _ _ (by omega)]; exact i2 q
      | false =>
        rw [rT2, if_neg (by rw [e]; decide)]
        refine ⟨by rw [va_up_ne _ _ (by omega)]; exact i1, fun q => ?_⟩
        rw [if_pos q] at hm
        rw [va_up_ne _ _ (by omega)]; exact i2 q
theorem two_surj {kw : Nat → Bool} {W i : Nat} (h : i < W + cntR kw W) : ∃ w, w < W ∧ (i = w + cntR kw w ∨ (kw w = true ∧ i = w + cntR kw w + 1)) := by
  induction W with
  | zero => exact absurd h (Nat.not_lt_zero _)
  | succ W ih =>
    by_cases e : i < W + cntR kw W
    · obtain ⟨w, h1, h2⟩ := ih e
      exact ⟨w, by omega, h2⟩
    · refine ⟨W, by omega, ?_⟩
      cases e2 : kw W with
      | true => rw [cntR_t e2] at h; by_cases e3 : i = W + cntR kw W
                · exact Or.inl e3
                · exact Or.inr ⟨rfl, by omega⟩
      | false => rw [cntR_f e2] at h; exact Or.inl (by omega)
theorem rTr_at {kw : Nat → Bool} {r : Nat} {x : Int32} {W : Nat} (hr : r < W) (h : kw r = true) : rTr kw r x W = nI (r + cntR kw r + 1) := by
  induction W with
  | zero => omega
  | succ W ih =>
    rw [rTr]
    by_cases e : r = W
    · subst e; rw [if_pos (by rw [h, decide_eq_true rfl]; rfl)]
    · rw [if_neg (by rw [decide_eq_false (fun q => e q.symm), Bool.and_false]; decide)]
      exact ih (by omega)
def rTv (x : Nat → Nat) (p : Nat) (g : Nat → Int32) : Nat → Nat → Int32
  | 0 => g
  | v + 1 => va_up (rTv x p g v) (128 * p + v) (nI (x v))
def rTq (x : Nat → Nat → Nat) (N : Nat) (g : Nat → Int32) : Nat → Nat → Int32
  | 0 => g
  | p + 1 => rTv (x p) p (rTq x N g p) N
theorem rTv_at {x : Nat → Nat} {p : Nat} {g : Nat → Int32} {N v : Nat} (h : v < N) : rTv x p g N (128 * p + v) = nI (x v) := by
  induction N with
  | zero => omega
  | succ N ih =>
    rw [rTv]
    by_cases e : v = N
    · subst e; exact if_pos rfl
    · rw [va_up_ne _ _ (by omega)]; exact ih (by omega)
theorem rTv_off {x : Nat → Nat} {p q j : Nat} {g : Nat → Int32} {N : Nat} (hN : N ≤ 128) (hj : j < 128) (hq : ¬ q = p) : rTv x p g N (128 * q + j) = g (128 * q + j) := by
  induction N with
  | zero => rfl
  | succ N ih => rw [rTv, va_up_ne _ _ (by omega)]; exact ih (by omega)
theorem rTq_at {x : Nat → Nat → Nat} {N : Nat} {g : Nat → Int32} {np p v : Nat} (hN : N ≤ 128) (hp : p < np) (hv : v < N) : rTq x N g np (128 * p + v) = nI (x p v) := by
  induction np with
  | zero => omega
  | succ k ih =>
    rw [rTq]
    by_cases e : p = k
    · subst e; exact rTv_at hv
    · rw [rTv_off hN (by omega) e]; exact ih (by omega)
/-- how near p stands to the telling of a to b -/
def tNr (st : Nat → Int32) (a b p : Nat) : Nat := if p = a ∨ p = b then 2 else if st p = st a then 1 else 0
theorem tNr_le (st : Nat → Int32) (a b p : Nat) : tNr st a b p ≤ 2 := by unfold tNr; repeat' split
                                                                         all_goals omega
section REFCJ
variable {G : tkG} {n : Nat} {T : Nat → Nat × Nat} {I : Nat → Nat → Int32} {L : Nat → Nat → Int64} {P : Nat → Nat → Option Nat}
theorem r_tellRow (hR : tkRef T P) {N p hw : Nat} {a b s a4 a7 : Int32} {x : Int64} {co wa : Nat → Nat} (hN : I 40 35 = nI N) (hN2 : N ≤ 128) (hp : p < 4) (hh : hw ≤ 2) (hco : ∀ i, i < N → I 79 i = nI (co i) ∧ co i < 64) (hwa : ∀ i, i < N → I 80 i = nI (wa i) ∧ wa i ≤ 2) {Q : Option tkV → tkH → Prop} (fin : ∀ l, tkle [some (vR 40), some (vI a), some (vI b), some (vI s), some (vI a4), some (vL x), none, some (vI a7), some (vI (nI p)), none, none, none, none, none] l → tkX G mX11_tell 36 0 0 474 l [] (n, T, va_up I 71 (rTv (fun i => Vt (tSm (I 65) co wa p hw i) i 0) p (I 71) N), L, P) Q) : tkX G mX11_tell 36 0 0 283 [some (vR 40), some (vI a), some (vI b), some (vI s), some (vI a4), some (vL x), none, some (vI a7), some (vI (nI p)), some (vI (nI hw)), some (vI (nI 0)), none, none, none] [] (n, T, I, L, P) Q := by
  refine tk_fr 0 N (fun i => [some (vR 40), some (vI a), some (vI b), some (vI s), some (vI a4), some (vL x), none, some (vI a7), some (vI (nI p)), some (vI (nI hw)), some (vI (nI i)), none, none, none]) (fun i => (n, T, va_up I 71 (rTv (fun i => Vt (tSm (I 65) co wa p hw i) i 0) p (I 71) i), L, P)) (by omega) (by repeat' (first | exact trivial | refine ⟨Or.inl rfl, ?_⟩ | refine ⟨Or.inr rfl, ?_⟩)) (by rw [rTv, tk_uid (k := 71)]; rfl) ?_ ?_
  · refine tk_iload10 dX11_tell_283 ?_
    refine tk_aload0 dX11_tell_285 ?_
    refine tk_getI dX11_tell_286 fX11_256 rfl hR.o ?_
    simp only [va_up_self, bx_uu, tk_une, tk_usrt, not_false_eq_true, Nat.reduceEqDiff, Nat.reduceLT, Nat.reduceAdd, Nat.reduceMul, Nat.reduceLeDiff, reduceCtorEq, hN]
    first | refine tk_icmp_geN dX11_tell_289 (by omega) (by omega) (fun h289 => ?_) (fun h289 => ?_) | refine tk_jcmp_ge dX11_tell_289 (fun h289 => ?_) (fun h289 => ?_)
    · exact fin _ (by repeat' (first | exact trivial | refine ⟨Or.inl rfl, ?_⟩ | refine ⟨Or.inr rfl, ?_⟩))
    · exfalso; omega
  · intro i _ hi k
    refine tk_iload10 dX11_tell_283 ?_
    refine tk_aload0 dX11_tell_285 ?_
    refine tk_getI dX11_tell_286 fX11_256 rfl hR.o ?_
    simp only [va_up_self, bx_uu, tk_une, tk_usrt, not_false_eq_true, Nat.reduceEqDiff, Nat.reduceLT, Nat.reduceAdd, Nat.reduceMul, Nat.reduceLeDiff, reduceCtorEq, hN]
    first | refine tk_icmp_geN dX11_tell_289 (by omega) (by omega) (fun h289 => ?_) (fun h289 => ?_) | refine tk_jcmp_ge dX11_tell_289 (fun h289 => ?_) (fun h289 => ?_)
    · exfalso; omega
    · refine tk_iload10 dX11_tell_292 ?_
      refine tk_istore11 dX11_tell_294 rfl ?_
      refine tk_iload10 dX11_tell_296 ?_
      refine tk_istore12 dX11_tell_298 rfl ?_
      refine tk_wk (ls' := [some (vR 40), some (vI a), some (vI b), some (vI s), some (vI a4), some (vL x), none, some (vI a7), some (vI (nI p)), some (vI (nI hw)), some (vI (nI i)), some (vI (nI (Vt (tSm (I 65) co wa p hw i) i (i + 1)))), some (vI (ixm (i + 1))), none]) (by rw [show Vt (tSm (I 65) co wa p hw i) i (i + 1) = i from if_neg (by omega), ixm_s]; exact (by repeat' (first | exact trivial | refine ⟨Or.inl rfl, ?_⟩ | refine ⟨Or.inr rfl, ?_⟩))) ?_
      refine tk_hI rfl rfl ?_
      have q := r_tellCell (G := G) (n := n) (T := T) (I := va_up I 71 (rTv (fun i => Vt (tSm (I 65) co wa p hw i) i 0) p (I 71) i)) (L := L) (P := P) hR (a := a) (b := b) (s := s) (a4 := a4) (a7 := a7) (x := x) (co := co) (wa := wa) (Q := Q) hN2 hp hh hi (by simp only [va_up_self, bx_uu, tk_une, tk_usrt, not_false_eq_true, Nat.reduceEqDiff, Nat.reduceLT, Nat.reduceAdd, Nat.reduceMul, Nat.reduceLeDiff, reduceCtorEq]; exact hco) (by simp only [va_up_self, bx_uu, tk_une, tk_usrt, not_false_eq_true, Nat.reduceEqDiff, Nat.reduceLT, Nat.reduceAdd, Nat.reduceMul, Nat.reduceLeDiff, reduceCtorEq]; exact hwa)
      simp only [va_up_self, bx_uu, tk_une, tk_usrt, not_false_eq_true, Nat.reduceEqDiff, Nat.reduceLT, Nat.reduceAdd, Nat.reduceMul, Nat.reduceLeDiff, reduceCtorEq] at q
      refine q (fun l hl => ?_) (i + 1) (by omega)
      refine tk_wk hl ?_
      have hvl := Vt_le (q := tSm (I 65) co wa p hw i) (i := i) (j := 0)
      refine tk_aload0 dX11_tell_452 ?_
      refine tk_getP dX11_tell_453 fX11_102 rfl hR.o (hR.p 38 rfl) ?_
      refine tk_sipush dX11_tell_456 kc_sipush_128 ?_
      refine tk_iload8 dX11_tell_459 ?_
      first | refine tk_imulN dX11_tell_461 ?_ | refine tk_imul dX11_tell_461 ?_
      refine tk_iload10 dX11_tell_462 ?_
      first | refine tk_iaddN dX11_tell_464 ?_ | refine tk_iadd dX11_tell_464 ?_
      refine tk_iload11 dX11_tell_465 ?_
      refine tk_iast dX11_tell_467 (hR.t 71 rfl) (by omega) (by omega) ?_
      simp only [va_up_self, bx_uu, tk_une, tk_usrt, not_false_eq_true, Nat.reduceEqDiff, Nat.reduceLT, Nat.reduceAdd, Nat.reduceMul, Nat.reduceLeDiff, reduceCtorEq]
      first | refine tk_iinc10 dX11_tell_468 (kc_inc _) rfl ?_ | refine tk_iinc10 dX11_tell_468 rfl rfl ?_
      refine tk_goto dX11_tell_471 ?_
      exact k _ (by repeat' (first | exact trivial | refine ⟨Or.inl rfl, ?_⟩ | refine ⟨Or.inr rfl, ?_⟩))
theorem r_tellRows (hR : tkRef T P) {N np a b : Nat} {s a4 a7 : Int32} {x : Int64} {co wa : Nat → Nat} (hnp : I 41 0 = nI np) (hnp4 : np ≤ 4) (ha : a < 4) (hb : b < 4) (hN : I 40 35 = nI N) (hN2 : N ≤ 128) (hco : ∀ i, i < N → I 79 i = nI (co i) ∧ co i < 64) (hwa : ∀ i, i < N → I 80 i = nI (wa i) ∧ wa i ≤ 2) {Q : Option tkV → tkH → Prop} (fin : ∀ l, tkle [some (vR 40), some (vI (nI a)), some (vI (nI b)), some (vI s), some (vI a4), some (vL x), none, some (vI a7), some (vI (nI 0)), none, none, none, none, none] l → tkX G mX11_tell 36 0 0 483 l [] (n, T, va_up I 71 (rTq (fun p i => Vt (tSm (I 65) co wa p (tNr (I 44) a b p) i) i 0) N (I 71) np), L, P) Q) : tkX G mX11_tell 36 0 0 230 [some (vR 40), some (vI (nI a)), some (vI (nI b)), some (vI s), some (vI a4), some (vL x), none, some (vI a7), some (vI (nI 0)), none, none, none, none, none] [] (n, T, I, L, P) Q := by
  refine tk_fr 0 np (fun i => [some (vR 40), some (vI (nI a)), some (vI (nI b)), some (vI s), some (vI a4), some (vL x), none, some (vI a7), some (vI (nI i)), none, none, none, none, none]) (fun i => (n, T, va_up I 71 (rTq (fun p i => Vt (tSm (I 65) co wa p (tNr (I 44) a b p) i) i 0) N (I 71) i), L, P)) (by omega) (by repeat' (first | exact trivial | refine ⟨Or.inl rfl, ?_⟩ | refine ⟨Or.inr rfl, ?_⟩)) (by rw [rTq, tk_uid (k := 71)]; rfl) ?_ ?_
  · refine tk_iload8 dX11_tell_230 ?_
    refine tk_aload0 dX11_tell_232 ?_
    refine tk_getP dX11_tell_233 fX11_7 rfl hR.o (hR.p 0 rfl) ?_
    refine tk_iconst dX11_tell_236 kc_iconst_0 ?_
    refine tk_iald dX11_tell_237 (hR.t 41 rfl) (by omega) (by omega) ?_
    simp only [va_up_self, bx_uu, tk_une, tk_usrt, not_false_eq_true, Nat.reduceEqDiff, Nat.reduceLT, Nat.reduceAdd, Nat.reduceMul, Nat.reduceLeDiff, reduceCtorEq, hnp]
    first | refine tk_icmp_geN dX11_tell_238 (by omega) (by omega) (fun h238 => ?_) (fun h238 => ?_) | refine tk_jcmp_ge dX11_tell_238 (fun h238 => ?_) (fun h238 => ?_)
    · refine tk_iconst dX11_tell_480 kc_iconst_0 ?_
      refine tk_istore8 dX11_tell_481 rfl ?_
      exact fin _ (by repeat' (first | exact trivial | refine ⟨Or.inl rfl, ?_⟩ | refine ⟨Or.inr rfl, ?_⟩))
    · exfalso; omega
  · intro p _ hp k
    have key : ∀ v : Nat, v = tNr (I 44) a b p → tkX G mX11_tell 36 0 0 278 [some (vR 40), some (vI (nI a)), some (vI (nI b)), some (vI s), some (vI a4), some (vL x), none, some (vI a7), some (vI (nI p)), none, none, none, none, none] [vI (nI v)] (n, T, va_up I 71 (rTq (fun p i => Vt (tSm (I 65) co wa p (tNr (I 44) a b p) i) i 0) N (I 71) p), L, P) Q := by
      intro v hv
      subst hv
      refine tk_istore9 dX11_tell_278 rfl ?_
      refine tk_iconst dX11_tell_280 kc_iconst_0 ?_
      refine tk_istore10 dX11_tell_281 rfl ?_
      have q := r_tellRow (G := G) (n := n) (T := T) (I := va_up I 71 (rTq (fun p i => Vt (tSm (I 65) co wa p (tNr (I 44) a b p) i) i 0) N (I 71) p)) (L := L) (P := P) hR (p := p) (hw := tNr (I 44) a b p) (a := nI a) (b := nI b) (s := s) (a4 := a4) (a7 := a7) (x := x) (co := co) (wa := wa) (Q := Q) (by simp only [va_up_self, bx_uu, tk_une, tk_usrt, not_false_eq_true, Nat.reduceEqDiff, Nat.reduceLT, Nat.reduceAdd, Nat.reduceMul, Nat.reduceLeDiff, reduceCtorEq]; exact hN) hN2 (by omega) (tNr_le _ _ _ _) (by simp only [va_up_self, bx_uu, tk_une, tk_usrt, not_false_eq_true, Nat.reduceEqDiff, Nat.reduceLT, Nat.reduceAdd, Nat.reduceMul, Nat.reduceLeDiff, reduceCtorEq]; exact hco) (by simp only [va_up_self, bx_uu, tk_une, tk_usrt, not_false_eq_true, Nat.reduceEqDiff, Nat.reduceLT, Nat.reduceAdd, Nat.reduceMul, Nat.reduceLeDiff, reduceCtorEq]; exact hwa)
      simp only [va_up_self, bx_uu, tk_une, tk_usrt, not_false_eq_true, Nat.reduceEqDiff, Nat.reduceLT, Nat.reduceAdd, Nat.reduceMul, Nat.reduceLeDiff, reduceCtorEq] at q
      refine tk_wk (by repeat' (first | exact trivial | refine ⟨Or.inl rfl, ?_⟩ | refine ⟨Or.inr rfl, ?_⟩)) (q (fun l hl => ?_))
      refine tk_wk hl ?_
      first | refine tk_iinc8 dX11_tell_474 (kc_inc _) rfl ?_ | refine tk_iinc8 dX11_tell_474 rfl rfl ?_
      refine tk_goto dX11_tell_477 ?_
      exact k _ (by repeat' (first | exact trivial | refine ⟨Or.inl rfl, ?_⟩ | refine ⟨Or.inr rfl, ?_⟩))
    refine tk_iload8 dX11_tell_230 ?_
    refine tk_aload0 dX11_tell_232 ?_
    refine tk_getP dX11_tell_233 fX11_7 rfl hR.o (hR.p 0 rfl) ?_
    refine tk_iconst dX11_tell_236 kc_iconst_0 ?_
    refine tk_iald dX11_tell_237 (hR.t 41 rfl) (by omega) (by omega) ?_
    simp only [va_up_self, bx_uu, tk_une, tk_usrt, not_false_eq_true, Nat.reduceEqDiff, Nat.reduceLT, Nat.reduceAdd, Nat.reduceMul, Nat.reduceLeDiff, reduceCtorEq, hnp]
    first | refine tk_icmp_geN dX11_tell_238 (by omega) (by omega) (fun h238 => ?_) (fun h238 => ?_) | refine tk_jcmp_ge dX11_tell_238 (fun h238 => ?_) (fun h238 => ?_)
    · exfalso; omega
    · refine tk_iload8 dX11_tell_241 ?_
      refine tk_iload1 dX11_tell_243 ?_
      first | refine tk_icmp_eqN dX11_tell_244 (by omega) (by omega) (fun h244 => ?_) (fun h244 => ?_) | refine tk_icmp_eq dX11_tell_244 (fun h244 => ?_) (fun h244 => ?_)
      · refine tk_iconst dX11_tell_253 kc_iconst_2 ?_
        refine tk_goto dX11_tell_254 ?_
        first | exact tk_wk (by repeat' (first | exact trivial | refine ⟨Or.inl rfl, ?_⟩ | refine ⟨Or.inr rfl, ?_⟩)) (key 2 (by unfold tNr; rw [if_pos (Or.inl h244)])) | exact tk_wk (by repeat' (first | exact trivial | refine ⟨Or.inl rfl, ?_⟩ | refine ⟨Or.inr rfl, ?_⟩)) (key 2 (by unfold tNr; rw [if_pos (Or.inr h250)])) | (simp only [va_up_self, bx_uu, tk_une, tk_usrt, not_false_eq_true, Nat.reduceEqDiff, Nat.reduceLT, Nat.reduceAdd, Nat.reduceMul, Nat.reduceLeDiff, reduceCtorEq] at h270; exact tk_wk (by repeat' (first | exact trivial | refine ⟨Or.inl rfl, ?_⟩ | refine ⟨Or.inr rfl, ?_⟩)) (key 1 (by unfold tNr; rw [if_neg (by omega), if_pos h270]))) | (simp only [va_up_self, bx_uu, tk_une, tk_usrt, not_false_eq_true, Nat.reduceEqDiff, Nat.reduceLT, Nat.reduceAdd, Nat.reduceMul, Nat.reduceLeDiff, reduceCtorEq] at h270; exact tk_wk (by repeat' (first | exact trivial | refine ⟨Or.inl rfl, ?_⟩ | refine ⟨Or.inr rfl, ?_⟩)) (key 0 (by unfold tNr; rw [if_neg (by omega), if_neg h270])))
      · refine tk_iload8 dX11_tell_247 ?_
        refine tk_iload2 dX11_tell_249 ?_
        first | refine tk_icmp_neN dX11_tell_250 (by omega) (by omega) (fun h250 => ?_) (fun h250 => ?_) | refine tk_icmp_ne dX11_tell_250 (fun h250 => ?_) (fun h250 => ?_)
        · refine tk_aload0 dX11_tell_257 ?_
          refine tk_getP dX11_tell_258 fX11_19 rfl hR.o (hR.p 3 rfl) ?_
          refine tk_iload8 dX11_tell_261 ?_
          refine tk_iald dX11_tell_263 (hR.t 44 rfl) (by omega) (by omega) ?_
          refine tk_aload0 dX11_tell_264 ?_
          refine tk_getP dX11_tell_265 fX11_19 rfl hR.o (hR.p 3 rfl) ?_
          refine tk_iload1 dX11_tell_268 ?_
          refine tk_iald dX11_tell_269 (hR.t 44 rfl) (by omega) (by omega) ?_
          first | refine tk_icmp_neN dX11_tell_270 (by omega) (by omega) (fun h270 => ?_) (fun h270 => ?_) | refine tk_icmp_ne dX11_tell_270 (fun h270 => ?_) (fun h270 => ?_)
          · refine tk_iconst dX11_tell_277 kc_iconst_0 ?_
            first | exact tk_wk (by repeat' (first | exact trivial | refine ⟨Or.inl rfl, ?_⟩ | refine ⟨Or.inr rfl, ?_⟩)) (key 2 (by unfold tNr; rw [if_pos (Or.inl h244)])) | exact tk_wk (by repeat' (first | exact trivial | refine ⟨Or.inl rfl, ?_⟩ | refine ⟨Or.inr rfl, ?_⟩)) (key 2 (by unfold tNr; rw [if_pos (Or.inr h250)])) | (simp only [va_up_self, bx_uu, tk_une, tk_usrt, not_false_eq_true, Nat.reduceEqDiff, Nat.reduceLT, Nat.reduceAdd, Nat.reduceMul, Nat.reduceLeDiff, reduceCtorEq] at h270; exact tk_wk (by repeat' (first | exact trivial | refine ⟨Or.inl rfl, ?_⟩ | refine ⟨Or.inr rfl, ?_⟩)) (key 1 (by unfold tNr; rw [if_neg (by omega), if_pos h270]))) | (simp only [va_up_self, bx_uu, tk_une, tk_usrt, not_false_eq_true, Nat.reduceEqDiff, Nat.reduceLT, Nat.reduceAdd, Nat.reduceMul, Nat.reduceLeDiff, reduceCtorEq] at h270; exact tk_wk (by repeat' (first | exact trivial | refine ⟨Or.inl rfl, ?_⟩ | refine ⟨Or.inr rfl, ?_⟩)) (key 0 (by unfold tNr; rw [if_neg (by omega), if_neg h270])))
          · refine tk_iconst dX11_tell_273 kc_iconst_1 ?_
            refine tk_goto dX11_tell_274 ?_
            first | exact tk_wk (by repeat' (first | exact trivial | refine ⟨Or.inl rfl, ?_⟩ | refine ⟨Or.inr rfl, ?_⟩)) (key 2 (by unfold tNr; rw [if_pos (Or.inl h244)])) | exact tk_wk (by repeat' (first | exact trivial | refine ⟨Or.inl rfl, ?_⟩ | refine ⟨Or.inr rfl, ?_⟩)) (key 2 (by unfold tNr; rw [if_pos (Or.inr h250)])) | (simp only [va_up_self, bx_uu, tk_une, tk_usrt, not_false_eq_true, Nat.reduceEqDiff, Nat.reduceLT, Nat.reduceAdd, Nat.reduceMul, Nat.reduceLeDiff, reduceCtorEq] at h270; exact tk_wk (by repeat' (first | exact trivial | refine ⟨Or.inl rfl, ?_⟩ | refine ⟨Or.inr rfl, ?_⟩)) (key 1 (by unfold tNr; rw [if_neg (by omega), if_pos h270]))) | (simp only [va_up_self, bx_uu, tk_une, tk_usrt, not_false_eq_true, Nat.reduceEqDiff, Nat.reduceLT, Nat.reduceAdd, Nat.reduceMul, Nat.reduceLeDiff, reduceCtorEq] at h270; exact tk_wk (by repeat' (first | exact trivial | refine ⟨Or.inl rfl, ?_⟩ | refine ⟨Or.inr rfl, ?_⟩)) (key 0 (by unfold tNr; rw [if_neg (by omega), if_neg h270])))
        · refine tk_iconst dX11_tell_253 kc_iconst_2 ?_
          refine tk_goto dX11_tell_254 ?_
          first | exact tk_wk (by repeat' (first | exact trivial | refine ⟨Or.inl rfl, ?_⟩ | refine ⟨Or.inr rfl, ?_⟩)) (key 2 (by unfold tNr; rw [if_pos (Or.inl h244)])) | exact tk_wk (by repeat' (first | exact trivial | refine ⟨Or.inl rfl, ?_⟩ | refine ⟨Or.inr rfl, ?_⟩)) (key 2 (by unfold tNr; rw [if_pos (Or.inr h250)])) | (simp only [va_up_self, bx_uu, tk_une, tk_usrt, not_false_eq_true, Nat.reduceEqDiff, Nat.reduceLT, Nat.reduceAdd, Nat.reduceMul, Nat.reduceLeDiff, reduceCtorEq] at h270; exact tk_wk (by repeat' (first | exact trivial | refine ⟨Or.inl rfl, ?_⟩ | refine ⟨Or.inr rfl, ?_⟩)) (key 1 (by unfold tNr; rw [if_neg (by omega), if_pos h270]))) | (simp only [va_up_self, bx_uu, tk_une, tk_usrt, not_false_eq_true, Nat.reduceEqDiff, Nat.reduceLT, Nat.reduceAdd, Nat.reduceMul, Nat.reduceLeDiff, reduceCtorEq] at h270; exact tk_wk (by repeat' (first | exact trivial | refine ⟨Or.inl rfl, ?_⟩ | refine ⟨Or.inr rfl, ?_⟩)) (key 0 (by unfold tNr; rw [if_neg (by omega), if_neg h270])))
end REFCJ
