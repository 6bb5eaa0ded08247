/-! ===== both sides: a call of each ===== -/
def yCl (Y : (Nat → Nat → Int32) → Prop) : Prop := ∀ J J', Y J → jSm J J' → Y J'
def lR (n : Nat) (T : Nat → Nat × Nat) (I : Nat → Nat → Int32) (L : Nat → Nat → Int64) (P : Nat → Nat → Option Nat) : Prop := tkRef T P ∧ cRel n T I L P I
def cQQ (n : Nat) (T : Nat → Nat × Nat) (I : Nat → Nat → Int32) (L : Nat → Nat → Int64) (P : Nat → Nat → Option Nat) (F : Int32 → ((Nat → Nat → Int32) → Prop) → Prop) : Option tkV → tkH → Prop := fun rv h => ∃ n' T' I' L' P' x, rv = some (vI x) ∧ h = (n', T', I', L', P') ∧ cKp n T I L P n' T' I' L' P' ∧ F x (fun J' => cRel n' T' I' L' P' J')
def rQQ (n : Nat) (T : Nat → Nat × Nat) (K : Nat → Nat → Int32) (L : Nat → Nat → Int64) (P : Nat → Nat → Option Nat) (F : Int32 → ((Nat → Nat → Int32) → Prop) → Prop) : Option tkV → tkH → Prop := fun rv h => ∃ I' L' y, rv = some (vI y) ∧ h = (n, T, I', L', P) ∧ rLm L L' ∧ (∀ a, a < 40 ∨ 87 ≤ a → I' a = K a) ∧ ∀ x Y, yCl Y → F x Y → x = y ∧ Y I'
def Fc (I : Nat → Nat → Int32) (c : Option Int32) (v : Int32) (J' : Nat → Nat → Int32) : Int32 → ((Nat → Nat → Int32) → Prop) → Prop := fun x Y => x = c.getD v ∧ Y (match c with
  | none => J'
  | some _ => rFnd I)
def Fl (I : Nat → Nat → Int32) (m : Nat) (c : Option Int32) (R : Nat → Nat → (Nat → Int32) → (Nat → Int32) → Prop) : Int32 → ((Nat → Nat → Int32) → Prop) → Prop := fun x Y => match c with
  | some f => x = f ∧ Y (rFnd I)
  | none => ∀ W' r' f' c', R W' r' f' c' → x = nI W' ∧ ∀ J', bJ I (rLay I (nI W') (nI r') f' c') J' m → Y J'
def Ft (I : Nat → Nat → Int32) (c : Option Int32) (R : Int32 → ((Nat → Nat → Int32) → Prop) → Prop) : Int32 → ((Nat → Nat → Int32) → Prop) → Prop := fun x Y => match c with
  | some f => x = f ∧ Y (rFnd I)
  | none => R x Y
/-- a call of the one and then of the other: they answer alike -/
def PAIR (G : tkG) (C C' : tkC) (d mc ms d' : Nat) (as : List tkV) (n : Nat) (T : Nat → Nat × Nat) (I : Nat → Nat → Int32) (L : Nat → Nat → Int64) (P : Nat → Nat → Option Nat) : Prop := ∃ Qc, tkM G C d mc ms (vR 0 :: as) (n, T, I, L, P) Qc ∧ ∀ rv h, Qc rv h → ∃ x n1 T1 I1 L1 P1, rv = some (vI x) ∧ h = (n1, T1, I1, L1, P1) ∧ tkRef T1 P1 ∧ ∃ Qr, tkM G C' d' 0 0 (vR 40 :: as) (n1, T1, I1, L1, P1) Qr ∧ ∀ rv2 h2, Qr rv2 h2 → ∃ I2 L2, rv2 = some (vI x) ∧ h2 = (n1, T1, I2, L2, P1) ∧ lR n1 T1 I2 L2 P1
section PAIRS
variable {G : tkG} {n : Nat} {T : Nat → Nat × Nat} {I J : Nat → Nat → Int32} {L : Nat → Nat → Int64} {P : Nat → Nat → Option Nat}
theorem cRel.cl : yCl (fun J' => cRel n T I L P J') := fun _ _ h e => h.js e
theorem cTown.rf {I' : Nat → Nat → Int32} {L' : Nat → Nat → Int64} {t : Nat} {A : Nat → Nat → Int32} (h : cTown n T I L P t A) (hi : ∀ a, a < 40 ∨ 87 ≤ a → I' a = I a) (hl : rLm L L') : cTown n T I' L' P t A := h.ex ⟨Nat.le_refl _, fun a ha => ⟨rfl, hi a (by have := ha.1; omega), hl a (by have := ha.1; omega), rfl⟩⟩
theorem cRel.rf {I' : Nat → Nat → Int32} {L' : Nat → Nat → Int64} (h : cRel n T I L P J) (hi : ∀ a, a < 40 ∨ 87 ≤ a → I' a = I a) (hl : rLm L L') : cRel n T I' L' P J := by
  obtain ⟨h1, h2, h3, h4, tw, kc, kn, o1, o2, o3, o4, o5, o6, o7, o8, o9⟩ := h
  refine ⟨h1, ?_, h3.st h1 (fun a ha => ⟨rfl, hi a (by omega), rfl⟩), h4, tw, kc, kn, o1, by rw [hi 0 (by omega)]; exact o2, by rw [hi 0 (by omega)]; exact o3, o4, o5, by rw [hi 0 (by omega)]; exact o6, o7, o8.rf hi hl, fun i hi' => ?_⟩
  · unfold cScr
    rw [hi 26 (by omega), hi 38 (by omega)]
    exact h2
  · obtain ⟨t, t1, t2⟩ := o9 i hi'
    exact ⟨t, t1, t2.rf hi hl⟩
theorem cKp.ref {n' : Nat} {T' : Nat → Nat × Nat} {I' : Nat → Nat → Int32} {L' : Nat → Nat → Int64} {P' : Nat → Nat → Option Nat} (h : cKp n T I L P n' T' I' L' P') (hr : tkRef T P) : tkRef T' P' := by
  refine ⟨fun a h1 h2 => by rw [(h.2 a h1 h2).1]; exact hr.1 a h1 h2, fun k b hk hb => ?_⟩
  rw [(h.2 40 (by omega) (by omega)).2.2.2]
  exact hr.2 k b hk hb
theorem pair_of {C C' : tkC} {d mc ms d' : Nat} {as : List tkV} {Qc : Option tkV → tkH → Prop} {F : Int32 → ((Nat → Nat → Int32) → Prop) → Prop} (hL : lR n T I L P) (hc : tkM G C d mc ms (vR 0 :: as) (n, T, I, L, P) Qc) (hq : ∀ rv h, Qc rv h → cQQ n T I L P F rv h) (hr : ∀ n1 T1 K KL P1, tkRef T1 P1 → ∃ Qr, tkM G C' d' 0 0 (vR 40 :: as) (n1, T1, mixJ I K, mixJ L KL, P1) Qr ∧ ∀ rv h, Qr rv h → rQQ n1 T1 K (mixJ L KL) P1 F rv h) : PAIR G C C' d mc ms d' as n T I L P := by
  refine ⟨Qc, hc, fun rv h hh => ?_⟩
  obtain ⟨n1, T1, I1, L1, P1, x, h1, h2, h3, h4⟩ := hq rv h hh
  have hr1 := h3.ref hL.1
  have eI : I1 = mixJ I I1 := mix_of (fun a a1 a2 => (h3.2 a a1 a2).2.1)
  have eL : L1 = mixJ L L1 := mix_of (fun a a1 a2 => (h3.2 a a1 a2).2.2.1)
  obtain ⟨Qr, q1, q2⟩ := hr n1 T1 I1 L1 P1 hr1
  rw [← eI, ← eL] at q1
  refine ⟨x, n1, T1, I1, L1, P1, h1, h2, hr1, Qr, q1, fun rv2 h5 hh2 => ?_⟩
  obtain ⟨I2, L2, y, g1, g2, g3, g4, g5⟩ := q2 rv2 h5 hh2
  rw [← eL] at g3
  obtain ⟨rfl, g6⟩ := g5 x _ cRel.cl h4
  exact ⟨I2, L2, g1, g2, hr1, g6.rf g4 g3⟩
theorem cq_c {c : Option Int32} {v : Int32} {J' : Nat → Nat → Int32} {rv : Option tkV} {h : tkH} (hq : cPst n T I L P I c v J' rv h) : cQQ n T I L P (Fc I c v J') rv h := by
  obtain ⟨n', T', I', L', P', h1, h2, h3, h4⟩ := hq
  exact ⟨n', T', I', L', P', _, h1, h2, h3, rfl, h4⟩
theorem cq_l {c : Option Int32} {m : Nat} {R : Nat → Nat → (Nat → Int32) → (Nat → Int32) → Prop} {rv : Option tkV} {h : tkH} (hq : lPst n T I L P I m c R rv h) : cQQ n T I L P (Fl I m c R) rv h := hq
theorem cq_t {c : Option Int32} {R : Int32 → ((Nat → Nat → Int32) → Prop) → Prop} {rv : Option tkV} {h : tkH} (hq : tPst n T I L P I c R rv h) : cQQ n T I L P (Ft I c R) rv h := hq
variable {n1 : Nat} {T1 : Nat → Nat × Nat} {K : Nat → Nat → Int32} {L1 : Nat → Nat → Int64} {P1 : Nat → Nat → Option Nat}
theorem mix_self (J K : Nat → Nat → Int32) : rSm (mixJ J K) (mixJ J K) := ⟨fun _ _ => rfl, rfl, rfl⟩
theorem rLm_rf {L : Nat → Nat → Int64} : rLm L L := fun _ _ => rfl
theorem rq_pst {c c0 : Option Int32} {v v0 : Int32} {I' J0 : Nat → Nat → Int32} (hc : c = c0) (hv : v = v0) (hj : I' = mixJ J0 K) : ∀ rv h, rPst n1 T1 (mixJ I K) L1 P1 c v I' rv h → rQQ n1 T1 K L1 P1 (Fc I c0 v0 J0) rv h := by
  subst hc; subst hv; subst hj
  intro rv h hq
  cases c with
  | none =>
    obtain ⟨rfl, rfl⟩ := hq
    refine ⟨_, _, _, rfl, rfl, rLm_rf, mix_fr (mix_self _ _), fun x Y hY hF => ⟨hF.1, hY _ _ hF.2 (mix_js (mix_self _ _))⟩⟩
  | some f =>
    obtain ⟨rfl, rfl⟩ := hq
    rw [mix_fnd]
    refine ⟨_, _, _, rfl, rfl, rLm_rf, mix_fr (mix_self _ _), fun x Y hY hF => ⟨hF.1, hY _ _ hF.2 (mix_js (mix_self _ _))⟩⟩
theorem rq_pt {v : Int32} {J0 : Nat → Nat → Int32} {rv : Option tkV} {h : tkH} {F : Int32 → ((Nat → Nat → Int32) → Prop) → Prop} (hq : rPt n1 T1 P1 L1 v (mixJ J0 K) rv h) (hF : ∀ x Y, yCl Y → F x Y → x = v ∧ Y J0) : rQQ n1 T1 K L1 P1 F rv h := by
  obtain ⟨I', L', rfl, rfl, q1, q2⟩ := hq
  refine ⟨I', L', v, rfl, rfl, q2, mix_fr q1, fun x Y hY hx => ?_⟩
  obtain ⟨z1, z2⟩ := hF x Y hY hx
  exact ⟨z1, hY _ _ z2 (mix_js q1)⟩
theorem rq_pm {c c0 : Option Int32} {v v0 : Int32} {I' J0 : Nat → Nat → Int32} (hc : c = c0) (hv : v = v0) (hj : I' = mixJ J0 K) : ∀ rv h, rPm n1 T1 P1 L1 (mixJ I K) c v I' rv h → rQQ n1 T1 K L1 P1 (Fc I c0 v0 J0) rv h := by
  subst hc; subst hv; subst hj
  intro rv h hq
  cases c with
  | none => exact rq_pt hq (fun x Y _ z => z)
  | some f =>
    have hq' : rPt n1 T1 P1 L1 f (rFnd (mixJ I K)) rv h := hq
    rw [mix_fnd] at hq'
    exact rq_pt hq' (fun x Y _ z => z)
theorem bJ_lay {W r : Int32} {f c : Nat → Int32} {m : Nat} : bJ I (rLay I W r f c) (rLay (rKp I m) W r f c) m := by
  have e : ∀ a, 41 ≤ a → a ≤ 59 → rKp I m a = I a := fun a h1 h2 => rKp_an (by omega) (by omega)
  refine bJ_of (fun a a1 a2 => ?_) rfl ?_ ?_ ?_ rfl
  · unfold rLay
    rw [e 41 (by omega) (by omega), e 42 (by omega) (by omega), e 43 (by omega) (by omega)]
    by_cases e1 : a = 43
    · rw [e1, va_up_self, va_up_self]
    · rw [va_up_ne _ _ e1, va_up_ne _ _ e1]
      by_cases e2 : a = 42
      · rw [e2, va_up_self, va_up_self]
      · rw [va_up_ne _ _ e2, va_up_ne _ _ e2]
        by_cases e3 : a = 41
        · rw [e3, va_up_self, va_up_self]
        · rw [va_up_ne _ _ e3, va_up_ne _ _ e3, e a a1 a2]
  · exact rKp_an (by omega) (by omega)
  · exact rKp_an (by omega) (by omega)
  · exact rKp_an (by omega) (by omega)
theorem rq_lq {c c0 : Option Int32} {m np W r : Nat} {M S M0 S0 : Int64} {a : Int32} {vf : Nat → Int32} {B : Nat → Int64} (hc : c = c0) (hM : M = M0) (hS : S = S0) (hvf : vf = I 42) (hB : B = pB (I 43) W) : ∀ rv h, rLq n1 T1 P1 L1 (mixJ I K) c (LQ n1 T1 P1 L1 (mixJ I K) m np W r vf B M a S) rv h → rQQ n1 T1 K L1 P1 (Fl I m c0 (mR I np W r M0 a S0)) rv h := by
  subst hc; subst hM; subst hS; subst hvf; subst hB
  intro rv h hq
  cases c with
  | none =>
    obtain ⟨I', L', W', r', f', c', ff, cc, rfl, rfl, q1, q2, q3, q4⟩ := hq
    rw [mix_kp, mix_lay] at q1
    refine ⟨I', L', _, rfl, rfl, q2, mix_fr q1, fun x Y hY hF => ?_⟩
    obtain ⟨z1, z2⟩ := hF W' r' f' c' ⟨ff, cc, q3, q4⟩
    exact ⟨z1, hY _ _ (z2 _ bJ_lay) (mix_js q1)⟩
  | some f =>
    have hq' : rPt n1 T1 P1 L1 f (rFnd (mixJ I K)) rv h := hq
    rw [mix_fnd] at hq'
    exact rq_pt hq' (fun x Y _ z => z)
theorem rq_le {A : Nat → Prop} : ∀ rv h, LEQ n1 T1 P1 (mixJ I K) L1 A rv h → rQQ n1 T1 K L1 P1 (leR I A) rv h := by
  rintro rv h ⟨o, ho, hq⟩
  cases o with
  | none =>
    have hq' : rPt n1 T1 P1 L1 (-100006) (rFnd (mixJ I K)) rv h := hq
    rw [mix_fnd] at hq'
    exact rq_pt hq' (fun x Y _ z => (z none ho).1 rfl)
  | some k => exact rq_pt (J0 := I) hq (fun x Y _ z => (z (some k) ho).2 k rfl)
theorem rq_lf {A : Nat → Prop} {B : Nat → (Nat → Nat) → Prop} {i : Int32} : ∀ rv h, LFQ n1 T1 P1 (mixJ I K) L1 A B i rv h → rQQ n1 T1 K L1 P1 (lfR I A B i) rv h := by
  rintro rv h ⟨o, ho, ⟨h1, hq⟩ | ⟨k, f, h1, h2, h3, hq⟩⟩
  · rw [mix_fnd] at hq
    exact rq_pt hq (fun x Y _ z => (z o ho).1 h1)
  · exact rq_pt (J0 := I) hq (fun x Y _ z => (z o ho).2 k f h1 h2 h3)
theorem rq_tl {m np W r a b : Nat} {vf ce st : Nat → Int32} {kw xx kw0 xx0 : Nat → Bool} (hvf : vf = rVT I 64) (hce : ce = rVT I 65) (hst : st = I 44) (hkw : kw = kw0) (hxx : xx = xx0) : ∀ rv h, TLP n1 T1 P1 L1 (mixJ I K) m np W r vf ce st kw xx a b rv h → rQQ n1 T1 K L1 P1 (fun X Y => tlR I np W r kw0 xx0 a b X Y m) rv h := by
  subst hvf; subst hce; subst hst; subst hkw; subst hxx
  rintro rv h ⟨co, wa, hT, I', L', ff, cc, rfl, q2, q3, q4, q5⟩
  rcases q5 with ⟨R, kd, g1, g2, g3, rfl, g5⟩ | ⟨W', r', f', c', rfl, g1, g2⟩
  · rw [mix_fnd] at g5
    refine ⟨I', L', _, rfl, rfl, q2, mix_fr g5, fun x Y hY hF => ?_⟩
    obtain ⟨z1, z2⟩ := (hF co wa ff cc hT q3 q4).1 R kd g1 g2 g3
    exact ⟨z1, hY _ _ z2 (mix_js g5)⟩
  · rw [mix_kp, mix_lay] at g1
    refine ⟨I', L', _, rfl, rfl, q2, mix_fr g1, fun x Y hY hF => ?_⟩
    obtain ⟨z1, z2⟩ := (hF co wa ff cc hT q3 q4).2 W' r' f' c' g2
    exact ⟨z1, hY _ _ (z2 _ bJ_lay) (mix_js g1)⟩
end PAIRS
