/-! ===== the law: rows over its script ===== -/
section SROW
variable {G : tkG} {d mc ms pc pc' : Nat} {ls : List (Option tkV)} {st : List tkV} {h : tkH} {Q : Option tkV → tkH → Prop} {len : Nat} {xs : Nat → Int32}
theorem tk_sload {C : tkC} {t : List (Option tkV)} (hd : tkD C pc (.aload_n 0) 1 pc') (k : tkX G C d mc ms pc' (some vS :: t) (vS :: st) h Q) : tkX G C d mc ms pc (some vS :: t) st h Q := by
  obtain ⟨hd, rfl⟩ := hd
  exact tk_pure (fun E L w => lv_aload_n E.1 E.2.1 hd rfl (L.at (j := 0) rfl) w) k
theorem tk_sald {j : Nat} (hd : tkD mL_law pc .iaload 1 pc') (hG : G.2.2.2.2 = (len, xs)) (hj : j < len) (hl : len < 2 ^ 31) (kk : tkX G mL_law d mc ms pc' ls (vI (xs j) :: st) h Q) : tkX G mL_law d mc ms pc ls (vI (nI j) :: vS :: st) h Q := by
  obtain ⟨hd, rfl⟩ := hd
  refine tkX_i ?_
  intro p l e R s m args below meth c0 H locs cells slots Z LS A LL Rp
  obtain ⟨hX, hb⟩ := A.1.2.2.2.2.2.2.2.2.2.2.2 rfl
  rw [hG] at hX
  obtain ⟨scr, h1, h2, h3, h4, h5⟩ := hX
  exact W.iald (v := .int (xs j)) A.1.1 A.1.2.1 (by rw [A.2.1.2.2.1 _ hb]; exact h1) h2 h3 (by rw [h4]; exact nI_in hj hl) (by rw [nI_clamp (by omega)]; exact h5 j hj) rfl rfl hd (tkX_e kk p l e R s m args below meth c0 H locs cells slots Z LS A LL Rp)
theorem tk_slen (hd : tkD mL_law pc .arraylength 1 pc') (hG : G.2.2.2.2 = (len, xs)) (kk : tkX G mL_law d mc ms pc' ls (vI (nI len) :: st) h Q) : tkX G mL_law d mc ms pc ls (vS :: st) h Q := by
  obtain ⟨hd, rfl⟩ := hd
  refine tkX_i ?_
  intro p l e R s m args below meth c0 H locs cells slots Z LS A LL Rp
  obtain ⟨hX, hb⟩ := A.1.2.2.2.2.2.2.2.2.2.2.2 rfl
  rw [hG] at hX
  obtain ⟨scr, h1, h2, h3, h4, h5⟩ := hX
  exact W.alen (n := nI len) A.1.1 A.1.2.1 (by rw [A.2.1.2.2.1 _ hb]; exact h1) h2 (by rw [h4]; rfl) rfl rfl hd (tkX_e kk p l e R s m args below meth c0 H locs cells slots Z LS A LL Rp)
end SROW
