/-! ===== the reference: cut ===== -/
/-- the least of kd over those below j that q tells, or v -/
def mnD (q : Nat → Bool) (kd : Nat → Nat) : Nat → Nat → Nat
  | 0, v => v
  | j + 1, v => mnD q kd j (if q j && decide (kd j < v) then kd j else v)
theorem mnD_spec (q : Nat → Bool) (kd : Nat → Nat) : ∀ j v, mnD q kd j v ≤ v ∧ (∀ u, u < j → q u = true → mnD q kd j v ≤ kd u) ∧ (mnD q kd j v = v ∨ ∃ u, u < j ∧ q u = true ∧ mnD q kd j v = kd u) := by
  intro j
  induction j with
  | zero => intro v; exact ⟨Nat.le_refl _, fun u hu => by omega, Or.inl rfl⟩
  | succ j ih =>
    intro v
    rw [mnD]
    cases e : q j && decide (kd j < v) with
    | true =>
      rw [Bool.and_eq_true, decide_eq_true_eq] at e
      rw [if_pos rfl]
      obtain ⟨a1, a2, a3⟩ := ih (kd j)
      refine ⟨by omega, fun u hu hq => ?_, ?_⟩
      · by_cases x : u = j
        · subst x; exact a1
        · exact a2 u (by omega) hq
      · rcases a3 with a3 | ⟨u, b1, b2, b3⟩
        · exact Or.inr ⟨j, by omega, e.1, a3⟩
        · exact Or.inr ⟨u, by omega, b2, b3⟩
    | false =>
      rw [if_neg (by decide)]
      obtain ⟨a1, a2, a3⟩ := ih v
      refine ⟨a1, fun u hu hq => ?_, ?_⟩
      · by_cases x : u = j
        · subst x
          rw [hq, Bool.true_and, decide_eq_false_iff_not] at e
          omega
        · exact a2 u (by omega) hq
      · rcases a3 with a3 | ⟨u, b1, b2, b3⟩
        · exact Or.inl a3
        · exact Or.inr ⟨u, by omega, b2, b3⟩
/-- the least kind in the cell of w -/
def mnK (c : Nat → Nat → Nat) (R : Nat → Bool) (kd : Nat → Nat) (N p w : Nat) : Nat := mnD (fun u => R u && decide (c p u = c p w)) kd N N
section REFY
variable {G : tkG} {n : Nat} {T : Nat → Nat × Nat} {I : Nat → Nat → Int32} {L : Nat → Nat → Int64} {P : Nat → Nat → Option Nat}
theorem r_cutCell (hR : tkRef T P) {np N : Nat} {c : Nat → Nat → Nat} {R : Nat → Bool} {kd : Nat → Nat} (hnp4 : np ≤ 4) (hN : I 40 35 = nI N) (hN2 : N ≤ 128) (hc : ∀ p, p < np → ∀ w, w < N → I 71 (128 * p + w) = nI (c p w) ∧ c p w < N) (ht : ∀ w, w < N → I 75 w = tkb (R w)) (hk : ∀ u, u < N → R u = true → I 72 u = nI (kd u) ∧ kd u < N) {Q : Option tkV → tkH → Prop} {a1 : Option tkV} {p w : Nat} (hp : p < np) (hw : w < N) : ∀ j v, j ≤ N → v ≤ N → (∀ l, tkle [some (vR 40), a1, some (vI (nI w)), some (vI (nI p)), some (vI (nI (mnD (fun u => R u && decide (c p u = c p w)) kd j v))), none] l → tkX G mX11_cut 2 0 0 197 l [] (n, T, I, L, P) Q) → tkX G mX11_cut 2 0 0 122 [some (vR 40), a1, some (vI (nI w)), some (vI (nI p)), some (vI (nI v)), some (vI (ixm j))] [] (n, T, I, L, P) Q := by
  intro j
  induction j with
  | zero =>
    intro v _ _ fin
    refine tk_iload5 dX11_cut_122 ?_
    refine tk_jf_lt dX11_cut_124 (fun h20 => ?_) (fun h20 => absurd ixm_0 (Int32.not_lt.mpr h20))
    exact fin _ (by repeat' (first | exact trivial | refine ⟨Or.inl rfl, ?_⟩ | refine ⟨Or.inr rfl, ?_⟩))
  | succ j ih =>
    intro v hj hv fin
    have e1 := ht j (by omega)
    have e2 := (hc p hp j (by omega)).1
    have e3 := (hc p hp w hw).1
    have b2 := (hc p hp j (by omega)).2
    have b3 := (hc p hp w hw).2
    rw [ixm_s]
    have k189 : ∀ v' : Nat, v' ≤ N → v' = (if (fun u => R u && decide (c p u = c p w)) j && decide (kd j < v) then kd j else v) → tkX G mX11_cut 2 0 0 189 [some (vR 40), a1, some (vI (nI w)), some (vI (nI p)), some (vI (nI v)), some (vI (nI j))] [vI (nI v')] (n, T, I, L, P) Q := by
      intro v' h1 h2
      subst h2
      refine tk_istore4 dX11_cut_189 rfl ?_
      refine tk_iinc5 dX11_cut_191 (v := ixm j) (ixm_dec' j) rfl ?_
      refine tk_goto dX11_cut_194 ?_
      exact ih _ (by omega) h1 fin
    refine tk_iload5 dX11_cut_122 ?_
    refine tk_jf_lt dX11_cut_124 (fun h124 => ?_) (fun h124 => ?_)
    · exact absurd h124 (nI_pos (by omega))
    · refine tk_aload0 dX11_cut_127 ?_
      refine tk_getP dX11_cut_128 fX11_114 rfl hR.o (hR.p 42 rfl) ?_
      refine tk_iload5 dX11_cut_131 ?_
      refine tk_bald dX11_cut_133 (hR.t 75 rfl) (by omega) (by omega) ?_
      simp only [e1]
      first | refine tk_jf_eqB dX11_cut_134 (fun h134 => ?_) (fun h134 => ?_) | refine tk_if_eq dX11_cut_134 (fun h134 => ?_) (fun h134 => ?_)
      · refine tk_iload4 dX11_cut_187 ?_
        have hb : ((R j && decide (c p j = c p w)) && decide (kd j < v)) = false := by first | (rw [h134]; rfl) | (simp only [decide_eq_false h162, Bool.and_false, Bool.false_and]; done) | (exact (congrArg _ (decide_eq_false (Nat.not_lt.mpr h174))).trans (Bool.and_false _))
        refine k189 _ (by omega) ?_
        first | exact (if_pos hb).symm | exact (if_neg (fun q => Bool.noConfusion (hb.symm.trans q))).symm
      · refine tk_aload0 dX11_cut_137 ?_
        refine tk_getP dX11_cut_138 fX11_102 rfl hR.o (hR.p 38 rfl) ?_
        refine tk_sipush dX11_cut_141 kc_sipush_128 ?_
        refine tk_iload3 dX11_cut_144 ?_
        first | refine tk_imulN dX11_cut_145 ?_ | refine tk_imul dX11_cut_145 ?_
        refine tk_iload5 dX11_cut_146 ?_
        first | refine tk_iaddN dX11_cut_148 ?_ | refine tk_iadd dX11_cut_148 ?_
        refine tk_iald dX11_cut_149 (hR.t 71 rfl) (by omega) (by omega) ?_
        rw [e2]
        refine tk_aload0 dX11_cut_150 ?_
        refine tk_getP dX11_cut_151 fX11_102 rfl hR.o (hR.p 38 rfl) ?_
        refine tk_sipush dX11_cut_154 kc_sipush_128 ?_
        refine tk_iload3 dX11_cut_157 ?_
        first | refine tk_imulN dX11_cut_158 ?_ | refine tk_imul dX11_cut_158 ?_
        refine tk_iload2 dX11_cut_159 ?_
        first | refine tk_iaddN dX11_cut_160 ?_ | refine tk_iadd dX11_cut_160 ?_
        refine tk_iald dX11_cut_161 (hR.t 71 rfl) (by omega) (by omega) ?_
        rw [e3]
        first | refine tk_icmp_neN dX11_cut_162 (by omega) (by omega) (fun h162 => ?_) (fun h162 => ?_) | refine tk_icmp_ne dX11_cut_162 (fun h162 => ?_) (fun h162 => ?_)
        · refine tk_iload4 dX11_cut_187 ?_
          have hb : ((R j && decide (c p j = c p w)) && decide (kd j < v)) = false := by first | (rw [h134]; rfl) | (simp only [decide_eq_false h162, Bool.and_false, Bool.false_and]; done) | (exact (congrArg _ (decide_eq_false (Nat.not_lt.mpr h174))).trans (Bool.and_false _))
          refine k189 _ (by omega) ?_
          first | exact (if_pos hb).symm | exact (if_neg (fun q => Bool.noConfusion (hb.symm.trans q))).symm
        · refine tk_aload0 dX11_cut_165 ?_
          refine tk_getP dX11_cut_166 fX11_105 rfl hR.o (hR.p 39 rfl) ?_
          refine tk_iload5 dX11_cut_169 ?_
          refine tk_iald dX11_cut_171 (hR.t 72 rfl) (by omega) (by omega) ?_
          rw [(hk j (by omega) h134).1]
          have b4 := (hk j (by omega) h134).2
          refine tk_iload4 dX11_cut_172 ?_
          first | refine tk_icmp_geN dX11_cut_174 (by omega) (by omega) (fun h174 => ?_) (fun h174 => ?_) | refine tk_jcmp_ge dX11_cut_174 (fun h174 => ?_) (fun h174 => ?_)
          · refine tk_iload4 dX11_cut_187 ?_
            have hb : ((R j && decide (c p j = c p w)) && decide (kd j < v)) = false := by first | (rw [h134]; rfl) | (simp only [decide_eq_false h162, Bool.and_false, Bool.false_and]; done) | (exact (congrArg _ (decide_eq_false (Nat.not_lt.mpr h174))).trans (Bool.and_false _))
            refine k189 _ (by omega) ?_
            first | exact (if_pos hb).symm | exact (if_neg (fun q => Bool.noConfusion (hb.symm.trans q))).symm
          · refine tk_aload0 dX11_cut_177 ?_
            refine tk_getP dX11_cut_178 fX11_105 rfl hR.o (hR.p 39 rfl) ?_
            refine tk_iload5 dX11_cut_181 ?_
            refine tk_iald dX11_cut_183 (hR.t 72 rfl) (by omega) (by omega) ?_
            rw [(hk j (by omega) h134).1]
            refine tk_goto dX11_cut_184 ?_
            have hb : ((R j && decide (c p j = c p w)) && decide (kd j < v)) = true := by rw [h134, decide_eq_true h162, decide_eq_true h174]; rfl
            refine k189 _ (by omega) ?_
            first | exact (if_pos hb).symm | exact (if_neg (fun q => Bool.noConfusion (hb.symm.trans q))).symm
end REFY
