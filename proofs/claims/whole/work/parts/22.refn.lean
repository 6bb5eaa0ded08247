/-! ===== the reference: sentences in a view ===== -/
/-- what is asked of a view -/
def VH (I : Nat → Nat → Int32) (np nf W cn : Nat) (cl : Nat → Nat) : Prop := I 41 0 = nI np ∧ np ≤ 4 ∧ I 40 26 = nI W ∧ W ≤ 64 ∧ I 40 31 = nI cn ∧ cn ≤ 5 ∧ ∀ c, c < cn → I 68 c = nI (cl c) ∧ 1 ≤ cl c ∧ cl c ≤ 14 ∧ WF np nf false (fun i => I 67 (14 * c + i)) 14 (cl c - 1)
/-- claims worked out -/
def CV (np W cn : Nat) (F : Nat → Int32) (B : Nat → Int64) (gr cs : Nat → Int32) (cl : Nat → Nat) : Nat → Int64 → Int64 := fun c set => SO np W cn F B gr (fun _ _ => 0) (fun i => cs (14 * c + i)) 14 (cl c - 1) set
def SOV (np W cn : Nat) (F : Nat → Int32) (B : Nat → Int64) (gr cs : Nat → Int32) (cl : Nat → Nat) (row : Nat → Int32) (l : Nat) (set : Int64) : Int64 := SO np W cn F B gr (CV np W cn F B gr cs cl) row 14 (l - 1) set
def rKw (B : Nat → Int64) (W p w : Nat) (x : Int64) : Bool := rKn B p w x (evr W) || rKn B p w (evr W &&& (x ^^^ (-1))) (evr W)
section REFN
variable {G : tkG} {n : Nat} {T : Nat → Nat × Nat} {I : Nat → Nat → Int32} {L : Nat → Nat → Int64} {P : Nat → Nat → Option Nat}
theorem r_so0 (hR : tkRef T P) {np nf W cn : Nat} {cl : Nat → Nat} (hv : VH I np nf W cn cl) (c : Nat) (hc : c < cn) (set : Int64) : tkM G mX11_so 16 0 0 [vR 40, vR 67, vI (nI (14 * c + (cl c - 1))), vL set] (n, T, I, L, P) (tkF (some (vL (CV np W cn (I 64) (L 66) (I 69) (I 67) cl c set))) (n, T, I, L, P)) := by
  obtain ⟨h1, h2, h3, h4, h5, h6, h7⟩ := hv
  obtain ⟨g1, g2, g3, g4⟩ := h7 c hc
  refine r_soG (ds := 1) (bl := false) (nf := nf) (cv := fun _ _ => 0) hR h3 h4 ?_ (hR.t 67 rfl) (by omega) 14 (cl c - 1) set (by omega) g4
  intro v w x set' a1 a2 a3 a4 a5
  exact r_isSo hR h1 h2 h3 h4 (by omega) a1 a2 a5 x set' (fun b1 b2 => absurd (a4 b1 b2) (by decide))
theorem r_rem (hR : tkRef T P) {np nf W cn : Nat} {cl : Nat → Nat} (hv : VH I np nf W cn cl) {p w dn : Nat} (hp : p < 4) (hw : w < 64) (hdn : dn ≤ 6) (set : Int64) : tkM G mX11_remaining 17 0 0 [vR 40, vI (nI p), vI (nI w), vL set, vI (nI dn)] (n, T, I, L, P) (tkF (some (vL (rRe (fun c => CV np W cn (I 64) (L 66) (I 69) (I 67) cl c set) dn cn (L 66 (64 * p + w) &&& set)))) (n, T, I, L, P)) := by
  have hv' := hv
  obtain ⟨h1, h2, h3, h4, h5, h6, h7⟩ := hv'
  exact r_remaining (ds := 16) (cv := CV np W cn (I 64) (L 66) (I 69) (I 67) cl) hR h5 h6 hp hw hdn cl (fun c hc => ⟨(h7 c hc).1, (h7 c hc).2.1, (h7 c hc).2.2.1⟩) set (fun c hc => r_so0 hR hv c hc set)
theorem r_so1 (hR : tkRef T P) {np nf W cn : Nat} {cl : Nat → Nat} (hv : VH I np nf W cn cl) {ra len b l : Nat} (hra : T ra = (20, len)) (hlen : len < 2 ^ 31) (hl : 1 ≤ l) (hb : b + l ≤ len) (hwf : WF np nf true (fun i => I ra (b + i)) 14 (l - 1)) (set : Int64) : tkM G mX11_so 33 0 0 [vR 40, vR ra, vI (nI (b + (l - 1))), vL set] (n, T, I, L, P) (tkF (some (vL (SOV np W cn (I 64) (L 66) (I 69) (I 67) cl (fun i => I ra (b + i)) l set))) (n, T, I, L, P)) := by
  have hv' := hv
  obtain ⟨h1, h2, h3, h4, h5, h6, h7⟩ := hv'
  refine r_soG (ds := 18) (bl := true) (nf := nf) (cv := CV np W cn (I 64) (L 66) (I 69) (I 67) cl) hR h3 h4 ?_ hra hlen 14 (l - 1) set (by omega) hwf
  intro v w x set' a1 a2 a3 a4 a5
  exact r_isSo hR h1 h2 h3 h4 (by omega) a1 a2 a5 x set' (fun b1 b2 => r_rem hR hv (by omega) (by omega) (by omega) set')
theorem r_soOf (hR : tkRef T P) {np nf W cn : Nat} {cl : Nat → Nat} (hv : VH I np nf W cn cl) {s l : Nat} (hs : s < 6) (hl : I 48 s = nI l) (hl1 : 1 ≤ l) (hl2 : l ≤ 14) (hwf : WF np nf true (fun i => I 47 (14 * s + i)) 14 (l - 1)) : tkM G mX11_soOf 34 0 0 [vR 40, vI (nI s)] (n, T, I, L, P) (tkF (some (vL (SOV np W cn (I 64) (L 66) (I 69) (I 67) cl (fun i => I 47 (14 * s + i)) l (evr W)))) (n, T, I, L, P)) := by
  refine tkM.of (ls := [some _, some _]) (by decide +kernel) (by decide +kernel) (Nat.le_of_ble_eq_true rfl) rfl ?_
  refine tk_aload0 dX11_soOf_0 ?_
  refine tk_aload0 dX11_soOf_1 ?_
  refine tk_getP dX11_soOf_2 fX11_28 rfl hR.o (hR.p 6 rfl) ?_
  refine tk_bipush dX11_soOf_5 kc_bipush_14 ?_
  refine tk_iload1 dX11_soOf_7 ?_
  first | refine tk_imulN dX11_soOf_8 ?_ | refine tk_imul dX11_soOf_8 ?_
  refine tk_aload0 dX11_soOf_9 ?_
  refine tk_getP dX11_soOf_10 fX11_31 rfl hR.o (hR.p 7 rfl) ?_
  refine tk_iload1 dX11_soOf_13 ?_
  refine tk_iald dX11_soOf_14 (hR.t 48 rfl) (by omega) (by omega) ?_
  rw [hl]
  first | refine tk_iaddN dX11_soOf_15 ?_ | refine tk_iadd dX11_soOf_15 ?_
  refine tk_iconst dX11_soOf_16 kc_iconst_1 ?_
  first | refine tk_isubN dX11_soOf_17 (by omega) ?_ | refine tk_isub dX11_soOf_17 ?_
  rw [show 14 * s + l - 1 = 14 * s + (l - 1) by omega]
  refine tk_aload0 dX11_soOf_18 ?_
  refine tk_callV0z dX11_soOf_19 kX11_252 hR.o (r_every hR hv.2.2.1 hv.2.2.2.1) (Nat.le_of_ble_eq_true rfl) (by omega) ?_
  refine tk_callV3z dX11_soOf_22 kX11_233 hR.o (r_so1 hR hv (hR.t 47 rfl) (by omega) hl1 (by omega) hwf _) (Nat.le_of_ble_eq_true rfl) (by omega) ?_
  refine tk_lreturn dX11_soOf_25 rfl ?_
  exact ⟨rfl, rfl⟩
theorem r_knowsWhether (hR : tkRef T P) {W p w : Nat} (hW : I 40 26 = nI W) (hW2 : W ≤ 64) (hp : p < 4) (hw : w < 64) (x : Int64) : tkM G mX11_knowsWhether 1 0 0 [vR 40, vI (nI p), vI (nI w), vL x] (n, T, I, L, P) (tkF (some (vI (tkb (rKw (L 66) W p w x)))) (n, T, I, L, P)) := by
  refine tkM.of (ls := [some _, some _, some _, some _, none]) (by decide +kernel) (by decide +kernel) (Nat.le_of_ble_eq_true rfl) rfl ?_
  refine tk_aload0 dX11_knowsWhether_0 ?_
  refine tk_iload1 dX11_knowsWhether_1 ?_
  refine tk_iload2 dX11_knowsWhether_2 ?_
  refine tk_lload3 dX11_knowsWhether_3 ?_
  refine tk_aload0 dX11_knowsWhether_4 ?_
  refine tk_callV0z dX11_knowsWhether_5 kX11_252 hR.o (r_every hR hW hW2) (Nat.le_of_ble_eq_true rfl) (by omega) ?_
  refine tk_callV4z dX11_knowsWhether_8 kX11_241 hR.o (r_knows hR hp hw _ _) (Nat.le_of_ble_eq_true rfl) (by omega) ?_
  first | refine tk_jf_neB dX11_knowsWhether_11 (fun h11 => ?_) (fun h11 => ?_) | refine tk_if_ne dX11_knowsWhether_11 (fun h11 => ?_) (fun h11 => ?_)
  · refine tk_iconst dX11_knowsWhether_37 kc_iconst_1 ?_
    refine tk_goto dX11_knowsWhether_38 ?_
    first | refine tk_zreturn dX11_knowsWhether_42 rfl ?_ | refine tk_zret0 dX11_knowsWhether_42 rfl ?_ | refine tk_zret1 dX11_knowsWhether_42 rfl ?_
    exact tkz (by unfold rKw; simp_all)
  · refine tk_aload0 dX11_knowsWhether_14 ?_
    refine tk_iload1 dX11_knowsWhether_15 ?_
    refine tk_iload2 dX11_knowsWhether_16 ?_
    refine tk_aload0 dX11_knowsWhether_17 ?_
    refine tk_callV0z dX11_knowsWhether_18 kX11_252 hR.o (r_every hR hW hW2) (Nat.le_of_ble_eq_true rfl) (by omega) ?_
    refine tk_lload3 dX11_knowsWhether_21 ?_
    refine tk_ldc2 dX11_knowsWhether_22 klX11_218 ?_
    refine tk_lxor dX11_knowsWhether_25 ?_
    refine tk_land dX11_knowsWhether_26 ?_
    refine tk_aload0 dX11_knowsWhether_27 ?_
    refine tk_callV0z dX11_knowsWhether_28 kX11_252 hR.o (r_every hR hW hW2) (Nat.le_of_ble_eq_true rfl) (by omega) ?_
    refine tk_callV4z dX11_knowsWhether_31 kX11_241 hR.o (r_knows hR hp hw _ _) (Nat.le_of_ble_eq_true rfl) (by omega) ?_
    first | refine tk_jf_eqB dX11_knowsWhether_34 (fun h34 => ?_) (fun h34 => ?_) | refine tk_if_eq dX11_knowsWhether_34 (fun h34 => ?_) (fun h34 => ?_)
    · refine tk_iconst dX11_knowsWhether_41 kc_iconst_0 ?_
      first | refine tk_zreturn dX11_knowsWhether_42 rfl ?_ | refine tk_zret0 dX11_knowsWhether_42 rfl ?_ | refine tk_zret1 dX11_knowsWhether_42 rfl ?_
      exact tkz (by unfold rKw; simp_all)
    · refine tk_iconst dX11_knowsWhether_37 kc_iconst_1 ?_
      refine tk_goto dX11_knowsWhether_38 ?_
      first | refine tk_zreturn dX11_knowsWhether_42 rfl ?_ | refine tk_zret0 dX11_knowsWhether_42 rfl ?_ | refine tk_zret1 dX11_knowsWhether_42 rfl ?_
      exact tkz (by unfold rKw; simp_all)
theorem r_soFact (hR : tkRef T P) {W f : Nat} (hW : I 40 26 = nI W) (hW2 : W ≤ 64) : tkM G mX11_soFact 0 0 0 [vR 40, vI (nI f)] (n, T, I, L, P) (tkF (some (vL (rSF (I 64) W f))) (n, T, I, L, P)) := by
  refine tkM.of (ls := [some _, some _, none, none, none]) (by decide +kernel) (by decide +kernel) (Nat.le_of_ble_eq_true rfl) rfl ?_
  refine tk_lconst dX11_soFact_0 (v := 0) (by decide) ?_
  refine tk_lstore2 dX11_soFact_1 rfl ?_
  refine tk_iconst dX11_soFact_2 kc_iconst_0 ?_
  refine tk_istore4 dX11_soFact_3 rfl ?_
  refine tk_fr 0 W (fun w => [some (vR 40), some (vI (nI f)), some (vL (mk (fun w => decide (kshr (I 64 w) (nI f) &&& nI 1 = nI 1)) w)), none, some (vI (nI w))]) (fun w => (n, T, I, L, P)) (by omega) (by repeat' (first | exact trivial | refine ⟨Or.inl rfl, ?_⟩ | refine ⟨Or.inr rfl, ?_⟩)) rfl ?_ ?_
  · refine tk_iload4 dX11_soFact_5 ?_
    refine tk_aload0 dX11_soFact_7 ?_
    refine tk_getI dX11_soFact_8 fX11_215 rfl hR.o ?_
    rw [hW]
    first | refine tk_icmp_geN dX11_soFact_11 (by omega) (by omega) (fun h11 => ?_) (fun h11 => ?_) | refine tk_jcmp_ge dX11_soFact_11 (fun h11 => ?_) (fun h11 => ?_)
    · refine tk_lload2 dX11_soFact_46 ?_
      refine tk_lreturn dX11_soFact_47 rfl ?_
      exact ⟨rfl, rfl⟩
    · exfalso; omega
  · intro w _ hw kk
    refine tk_iload4 dX11_soFact_5 ?_
    refine tk_aload0 dX11_soFact_7 ?_
    refine tk_getI dX11_soFact_8 fX11_215 rfl hR.o ?_
    rw [hW]
    first | refine tk_icmp_geN dX11_soFact_11 (by omega) (by omega) (fun h11 => ?_) (fun h11 => ?_) | refine tk_jcmp_ge dX11_soFact_11 (fun h11 => ?_) (fun h11 => ?_)
    · exfalso; omega
    · refine tk_lload2 dX11_soFact_14 ?_
      refine tk_aload0 dX11_soFact_15 ?_
      refine tk_getP dX11_soFact_16 fX11_80 rfl hR.o (hR.p 28 rfl) ?_
      refine tk_iload4 dX11_soFact_19 ?_
      refine tk_iald dX11_soFact_21 (hR.t 64 rfl) (by omega) (by omega) ?_
      refine tk_iload1 dX11_soFact_22 ?_
      refine tk_ishr dX11_soFact_23 ?_
      refine tk_iconst dX11_soFact_24 kc_iconst_1 ?_
      refine tk_iand dX11_soFact_25 ?_
      refine tk_iconst dX11_soFact_26 kc_iconst_1 ?_
      first | refine tk_icmp_neN dX11_soFact_27 (by omega) (by omega) (fun h27 => ?_) (fun h27 => ?_) | refine tk_icmp_ne dX11_soFact_27 (fun h27 => ?_) (fun h27 => ?_)
      · refine tk_lconst dX11_soFact_37 (v := 0) (by decide) ?_
        refine tk_lor dX11_soFact_38 ?_
        refine tk_lstore2 dX11_soFact_39 rfl ?_
        first | refine tk_iinc4 dX11_soFact_40 (kc_inc _) rfl ?_ | refine tk_iinc4 dX11_soFact_40 rfl rfl ?_
        refine tk_goto dX11_soFact_43 ?_
        refine kk _ ?_
        first | rw [mk_t (f := fun w => decide (kshr (I 64 w) (nI f) &&& nI 1 = nI 1)) (decide_eq_true h27)] | rw [mk_f (f := fun w => decide (kshr (I 64 w) (nI f) &&& nI 1 = nI 1)) (decide_eq_false h27), or0]
        exact (by repeat' (first | exact trivial | refine ⟨Or.inl rfl, ?_⟩ | refine ⟨Or.inr rfl, ?_⟩))
      · refine tk_lconst dX11_soFact_30 (v := 1) (by decide) ?_
        refine tk_iload4 dX11_soFact_31 ?_
        refine tk_lshl dX11_soFact_33 ?_
        refine tk_goto dX11_soFact_34 ?_
        refine tk_lor dX11_soFact_38 ?_
        refine tk_lstore2 dX11_soFact_39 rfl ?_
        first | refine tk_iinc4 dX11_soFact_40 (kc_inc _) rfl ?_ | refine tk_iinc4 dX11_soFact_40 rfl rfl ?_
        refine tk_goto dX11_soFact_43 ?_
        refine kk _ ?_
        first | rw [mk_t (f := fun w => decide (kshr (I 64 w) (nI f) &&& nI 1 = nI 1)) (decide_eq_true h27)] | rw [mk_f (f := fun w => decide (kshr (I 64 w) (nI f) &&& nI 1 = nI 1)) (decide_eq_false h27), or0]
        exact (by repeat' (first | exact trivial | refine ⟨Or.inl rfl, ?_⟩ | refine ⟨Or.inr rfl, ?_⟩))
/-- the worlds at which a person knows a sentence -/
def rKs (B : Nat → Int64) (W p : Nat) (x : Int64) : Int64 := mk (fun w => rKn B p w x (evr W)) W
theorem r_knowing (hR : tkRef T P) {np nf W cn : Nat} {cl : Nat → Nat} (hv : VH I np nf W cn cl) {s l p : Nat} (hp : p < 4) (hs : s < 6) (hl : I 48 s = nI l) (hl1 : 1 ≤ l) (hl2 : l ≤ 14) (hwf : WF np nf true (fun i => I 47 (14 * s + i)) 14 (l - 1)) : tkM G mX11_knowing 35 0 0 [vR 40, vI (nI p), vI (nI s)] (n, T, I, L, P) (tkF (some (vL (rKs (L 66) W p (SOV np W cn (I 64) (L 66) (I 69) (I 67) cl (fun i => I 47 (14 * s + i)) l (evr W))))) (n, T, I, L, P)) := by
  have hW := hv.2.2.1
  have hW2 := hv.2.2.2.1
  have hso := r_soOf (G := G) (n := n) (L := L) hR hv hs hl hl1 hl2 hwf
  generalize SOV np W cn (I 64) (L 66) (I 69) (I 67) cl (fun i => I 47 (14 * s + i)) l (evr W) = x at hso ⊢
  refine tkM.of (ls := [some _, some _, some _, none, none, none, none, none]) (by decide +kernel) (by decide +kernel) (Nat.le_of_ble_eq_true rfl) rfl ?_
  refine tk_aload0 dX11_knowing_0 ?_
  refine tk_iload2 dX11_knowing_1 ?_
  refine tk_callV1z dX11_knowing_2 kX11_299 hR.o (hso) (Nat.le_of_ble_eq_true rfl) (by omega) ?_
  refine tk_lstore3 dX11_knowing_5 rfl ?_
  refine tk_lconst dX11_knowing_6 (v := 0) (by decide) ?_
  refine tk_lstore5 dX11_knowing_7 rfl ?_
  refine tk_iconst dX11_knowing_9 kc_iconst_0 ?_
  refine tk_istore7 dX11_knowing_10 rfl ?_
  refine tk_fr 0 W (fun w => [some (vR 40), some (vI (nI p)), some (vI (nI s)), some (vL x), none, some (vL (mk (fun w => rKn (L 66) p w x (evr W)) w)), none, some (vI (nI w))]) (fun w => (n, T, I, L, P)) (by omega) (by repeat' (first | exact trivial | refine ⟨Or.inl rfl, ?_⟩ | refine ⟨Or.inr rfl, ?_⟩)) rfl ?_ ?_
  · refine tk_iload7 dX11_knowing_12 ?_
    refine tk_aload0 dX11_knowing_14 ?_
    refine tk_getI dX11_knowing_15 fX11_215 rfl hR.o ?_
    rw [hW]
    first | refine tk_icmp_geN dX11_knowing_18 (by omega) (by omega) (fun h18 => ?_) (fun h18 => ?_) | refine tk_jcmp_ge dX11_knowing_18 (fun h18 => ?_) (fun h18 => ?_)
    · refine tk_lload5 dX11_knowing_55 ?_
      refine tk_lreturn dX11_knowing_57 rfl ?_
      exact ⟨rfl, rfl⟩
    · exfalso; omega
  · intro w _ hw kk
    refine tk_iload7 dX11_knowing_12 ?_
    refine tk_aload0 dX11_knowing_14 ?_
    refine tk_getI dX11_knowing_15 fX11_215 rfl hR.o ?_
    rw [hW]
    first | refine tk_icmp_geN dX11_knowing_18 (by omega) (by omega) (fun h18 => ?_) (fun h18 => ?_) | refine tk_jcmp_ge dX11_knowing_18 (fun h18 => ?_) (fun h18 => ?_)
    · exfalso; omega
    · refine tk_lload5 dX11_knowing_21 ?_
      refine tk_aload0 dX11_knowing_23 ?_
      refine tk_iload1 dX11_knowing_24 ?_
      refine tk_iload7 dX11_knowing_25 ?_
      refine tk_lload3 dX11_knowing_27 ?_
      refine tk_aload0 dX11_knowing_28 ?_
      refine tk_callV0z dX11_knowing_29 kX11_252 hR.o (r_every hR hW hW2) (Nat.le_of_ble_eq_true rfl) (by omega) ?_
      refine tk_callV4z dX11_knowing_32 kX11_241 hR.o (r_knows hR hp (by omega) _ _) (Nat.le_of_ble_eq_true rfl) (by omega) ?_
      first | refine tk_jf_eqB dX11_knowing_35 (fun h35 => ?_) (fun h35 => ?_) | refine tk_if_eq dX11_knowing_35 (fun h35 => ?_) (fun h35 => ?_)
      · refine tk_lconst dX11_knowing_45 (v := 0) (by decide) ?_
        refine tk_lor dX11_knowing_46 ?_
        refine tk_lstore5 dX11_knowing_47 rfl ?_
        first | refine tk_iinc7 dX11_knowing_49 (kc_inc _) rfl ?_ | refine tk_iinc7 dX11_knowing_49 rfl rfl ?_
        refine tk_goto dX11_knowing_52 ?_
        refine kk _ ?_
        first | rw [mk_t (f := fun w => rKn (L 66) p w x (evr W)) h35] | rw [mk_f (f := fun w => rKn (L 66) p w x (evr W)) h35, or0]
        exact (by repeat' (first | exact trivial | refine ⟨Or.inl rfl, ?_⟩ | refine ⟨Or.inr rfl, ?_⟩))
      · refine tk_lconst dX11_knowing_38 (v := 1) (by decide) ?_
        refine tk_iload7 dX11_knowing_39 ?_
        refine tk_lshl dX11_knowing_41 ?_
        refine tk_goto dX11_knowing_42 ?_
        refine tk_lor dX11_knowing_46 ?_
        refine tk_lstore5 dX11_knowing_47 rfl ?_
        first | refine tk_iinc7 dX11_knowing_49 (kc_inc _) rfl ?_ | refine tk_iinc7 dX11_knowing_49 rfl rfl ?_
        refine tk_goto dX11_knowing_52 ?_
        refine kk _ ?_
        first | rw [mk_t (f := fun w => rKn (L 66) p w x (evr W)) h35] | rw [mk_f (f := fun w => rKn (L 66) p w x (evr W)) h35, or0]
        exact (by repeat' (first | exact trivial | refine ⟨Or.inl rfl, ?_⟩ | refine ⟨Or.inr rfl, ?_⟩))
end REFN
