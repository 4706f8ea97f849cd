/-! THE SMALL LOGIC, part four: fields, arrays, what is made, calls, returns. -/
def gFd (own : String) (idx ci k : Nat) : Prop := ∃ (C : String) (T : u_T) (N : Nat), gCl ci C T N ∧ k < N ∧ (Cond.fieldLink own idx C (T k).2.1 (T k).2.2.1 ∈ gWd ∨ ∃ host : String, Cond.fieldLinkNest own idx C (T k).2.1 (T k).2.2.1 host ∈ lw_tbl)
/-- a field that is not final, or one that its own constructor sets -/
def gFp (own : String) (idx ci k : Nat) (ini : Bool) : Prop := ∃ (C : String) (T : u_T) (N : Nat), vwCl[ci]? = some (C, T, N) ∧ ((T k).2.2.2 = false ∨ ((T k).2.2.2 = true ∧ ini = true ∧ C = own ∧ Cond.fieldLink own idx C (T k).2.1 (T k).2.2.1 ∈ gWd))
theorem gfs_at (E : gE) (m : gM) (a : Int) (ci : Nat) {k : Nat} (hk : k < gNn ci) : ((List.range (gNn ci)).map fun j => gfv E m a j (gty ci j))[k]? = some (gfv E m a k (gty ci k)) := by
  rw [List.getElem?_map, List.getElem?_range hk]
  rfl
theorem gcell_obj (E : gE) (m : gM) (a : Int) (ci : Nat) : gcell E m a (.inl ci) = .inr (ci, (List.range (gNn ci)).map fun j => gfv E m a j (gty ci j)) := rfl
theorem gcell_i (E : gE) (m : gM) (a : Int) {t n : Nat} (h : t < 2) : gcell E m a (.inr (t, n)) = .inl (E.2.2.1 t, n, .inl (fun j => Int32.ofInt (m.2.2 a j))) := by
  show (if t < 2 then _ else _) = _
  rw [if_pos h]
theorem gcell_q (E : gE) (m : gM) (a : Int) {t n : Nat} (h : ¬ t < 2) : gcell E m a (.inr (t, n)) = .inl (E.2.2.1 t, n, .inr (.inr (.inr (.inr (fun j => gro E (m.2.1 a j)))))) := by
  show (if t < 2 then _ else _) = _
  rw [if_neg h]
theorem gv_ref_cat {E : gE} {a : Int} : (∃ q, gv E (ga a) = .ref q) ∨ gv E (ga a) = .null := by
  by_cases h : a < 0
  · exact Or.inr (gv_n h)
  · exact Or.inl ⟨_, gv_a (by omega)⟩
section HEAP
variable {l : Launch} {E : gE} {F : gF} {pc : Nat} {ls : gL} {st : List gV} {bc bs : Nat} {K : List gK} {R V : Int → Int → Int}
theorem gX_getf {m : gM} {idx ci k : Nat} {a : Int} {v : gV} (hd : decode F.1.2.1 pc = .ok (.getfield idx, 3)) (hf : gFd F.1.1 idx ci k) (hk : kd m a = some (.inl ci)) (hv : gfv E m a k (gty ci k) = gv E v) (hok : gRg m → gok v) (kk : gX l E F (pc + 3) ls (v :: st) m bc bs) : gX l E F pc ls (ga a :: st) m bc bs := by
  intro p e s mm args below meth c H locs lsM cells slots hc hH hS hL hst h1 h2
  obtain ⟨C, T, N, ⟨hcl, hin, hty, hnm, hN, hC⟩, hkN, hlk⟩ := hf
  have he := gws_get (E := E) hk hH.2.2.1
  rw [gcell_obj] at he
  have hfs := gfs_at E m a ci (k := k) (by rw [hN]; exact hkN)
  rw [List.map_cons, gv_a (kd_pos hk)]
  have h := kk p e s mm args below meth c H locs lsM cells slots hc hH hS hL (gst_cons (hok hH.2.2.2) (gst_tl hst)) h1 h2
  rw [List.map_cons, ← hv] at h
  rcases hlk with hlk | ⟨host, hlk⟩
  · exact va_get (D := (E.1, E.2.1)) (cl := vwCl) (tys := gtys E) (Ts := gWd) (ref := C) hc.1 hc.2.1 hc.2.2.2.2.2.1 hin hc.2.2.2.2.1 hc.2.2.2.2.2.2.2.2.1.1 hH.1 a.toNat he hcl k hkN (hc.2.2.2.2.2.1 _ hlk) (fun x hx => by rw [hC k hkN] at hx; exact hx) hfs hd h
  · exact va_getN (D := (E.1, E.2.1)) (cl := vwCl) (tys := gtys E) (Ts := gWd) (ref := C) (host := host) hc.1 hc.2.1 hc.2.2.2.2.2.1 hin hc.2.2.2.2.1 hc.2.2.2.2.2.2.2.2.1.1 hH.1 a.toNat he hcl k hkN (va_Nw.use rfl (hc.2.2.2.2.2.2.2.2.1.2.2.2.1 _ hlk rfl)) (fun x hx => by rw [hC k hkN] at hx; exact hx) hfs hd h
/-- a number field -/
theorem gX_getI {idx ci k : Nat} {a : Int} (hd : decode F.1.2.1 pc = .ok (.getfield idx, 3)) (hf : gFd F.1.1 idx ci k) (ht : gty ci k = .int ∨ gty ci k = .boolean) (hk : kd (K, R, V) a = some (.inl ci)) (kk : gX l E F (pc + 3) ls (gi (V a k) :: st) (K, R, V) bc bs) : gX l E F pc ls (ga a :: st) (K, R, V) bc bs := by
  refine gX_getf (v := gi (V a k)) hd hf hk ?_ (fun h => gRg_32 (m := (K, R, V)) h (gLg_obj hk ?_)) kk
  · rcases ht with h | h <;> rw [h] <;> rfl
  · rcases ht with h | h <;> rw [h] <;> exact fun z => by cases z
theorem gX_getL {idx ci k : Nat} {a : Int} (hd : decode F.1.2.1 pc = .ok (.getfield idx, 3)) (hf : gFd F.1.1 idx ci k) (ht : gty ci k = .long) (hk : kd (K, R, V) a = some (.inl ci)) (kk : gX l E F (pc + 3) ls (gl (V a k) :: st) (K, R, V) bc bs) : gX l E F pc ls (ga a :: st) (K, R, V) bc bs := by
  refine gX_getf (v := gl (V a k)) hd hf hk ?_ (fun h => gRg_64 (m := (K, R, V)) h a k) kk
  rw [ht]
  rfl
def gIsR (ty : FieldType) : Bool := match ty with
  | .object _ => true
  | .array _ => true
  | _ => false
theorem gX_getR {idx ci k : Nat} {a b : Int} (hd : decode F.1.2.1 pc = .ok (.getfield idx, 3)) (hf : gFd F.1.1 idx ci k) (ht : gIsR (gty ci k) = true) (hk : kd (K, R, V) a = some (.inl ci)) (hb : R a k = b) (kk : gX l E F (pc + 3) ls (ga b :: st) (K, R, V) bc bs) : gX l E F pc ls (ga a :: st) (K, R, V) bc bs := by
  subst hb
  refine gX_getf (v := ga (R a k)) hd hf hk ?_ (fun h => trivial) kk
  cases hg : gty ci k <;> rw [hg] at ht <;> first | rfl | cases ht
theorem gX_putf {m m' : gM} {idx ci k : Nat} {a : Int} {v : gV} (hd : decode F.1.2.1 pc = .ok (.putfield idx, 3)) (hf : gFd F.1.1 idx ci k) (hfp : gFp F.1.1 idx ci k F.1.2.2.2.2) (hk : kd m a = some (.inl ci)) (hn : narrow (gty ci k) (gv E v) = gv E v) (hfit : fits (gty ci k) (gv E v) = true)
    (h1' : m'.1 = m.1) (ho : ∀ (i : Nat) (k' : gK), (i : Int) ≠ a → gcell E m' i k' = gcell E m i k') (hs : ∀ j : Nat, gfv E m' a j (gty ci j) = if j = k then gv E v else gfv E m a j (gty ci j)) (hrg : gRg m → gok v → gRg m') (kk : gX l E F (pc + 3) ls st m' bc bs) : gX l E F pc ls (v :: ga a :: st) m bc bs := by
  intro p e s mm args below meth c H locs lsM cells slots hc hH hS hL hst h1 h2
  obtain ⟨C, T, N, ⟨hcl, hin, hty, hnm, hN, hC⟩, hkN, hlk⟩ := hf
  obtain ⟨C', T', N', hcl', hfp⟩ := hfp
  obtain ⟨rfl, rfl, rfl⟩ : C = C' ∧ T = T' ∧ N = N' := by
    have := hcl.symm.trans hcl'
    simp only [Option.some.injEq, Prod.mk.injEq] at this
    exact this
  have he := gws_get (E := E) hk hH.2.2.1
  rw [gcell_obj] at he
  rw [List.map_cons, List.map_cons, gv_a (kd_pos hk)]
  have hset : (gws E m).set a.toNat (gad E a, .inr (ci, ((List.range (gNn ci)).map fun j => gfv E m a j (gty ci j)).set k (gv E v))) = gws E m' := by
    refine gws_set hk hH.2.2.1 h1' ho ?_
    rw [gcell_obj]
    congr 2
    apply List.ext_getElem?
    intro j
    by_cases hj : j < gNn ci
    · rw [gfs_at E m' a ci hj, hs j]
      by_cases hjk : j = k
      · subst hjk
        rw [if_pos rfl, List.getElem?_set_self (by simpa using hj)]
      · rw [if_neg hjk, List.getElem?_set_ne (Ne.symm hjk), gfs_at E m a ci hj]
    · rw [List.getElem?_eq_none (by simp; omega), List.getElem?_eq_none (by simp; omega)]
  have h : ∀ (H1 : Heap) (locs1 : List Loc), va_P (E.1, E.2.1) vwCl ((gws E m).set a.toNat (gad E a, .inr (ci, ((List.range (gNn ci)).map fun j => gfv E m a j (gty ci j)).set k (gv E v)))) H1 → H1.size = H.size → va_S (gA E) s.heap H1 locs1 → W p l e F.2.1 s mm args below meth c H1 locs1 cells slots (F.2.2.1 below args s) (F0 mm (pc + 3) lsM (st.map (gv E))) := by
    intro H1 locs1 q1 q2 q3
    rw [hset] at q1
    exact kk p e s mm args below meth c H1 locs1 lsM cells slots hc ⟨q1, by rw [q2, h1']; exact hH.2.1, by rw [h1']; exact hH.2.2.1, hrg hH.2.2.2 (gst_hd hst)⟩ q3 hL (gst_tl (gst_tl hst)) h1 h2
  have hK := hc.2.2.2.2.2.2.2.2.1.1
  have hap := va_apart (own := F.1.1) (D := (E.1, E.2.1)) (cl := vwCl) (tys := gtys E) hc.2.2.2.2.2.1 hin (gty ci) hty hnm hK hcl
  have hD := gws_D E m
  obtain ⟨r, g1, cell, q1, q2, q3, q4⟩ := hH.1 a.toNat _ he
  have hr : r = (C, T, N) := Option.some.inj (g1.symm.trans hcl)
  subst hr
  obtain ⟨hSl, hfc, kC, hkC, hkind⟩ := hK.1 ci _ hcl
  obtain ⟨cf, kf, fi, f, hi, hsl⟩ := hSl k hkN
  have hlay := hc.2.2.2.2.2.1 _ (hin _ (u_in_lay hkN))
  unfold u_lay at hlay
  have hstt := (u_facts hfc hkC (u_lays hc.2.2.2.2.2.1 hin hkN) hi).1
  have hi2 : s.fieldFound? C (T k).2.1 (T k).2.2.1 = some (cf, kf, fi, f) := by rw [← hC k hkN]; exact hi
  have fin : ∀ H' : Heap, H'[gad E a]? = some (cell.setSlot f.slot (gv E v)) → H'.size = H.size → (∀ q, q ≠ gad E a → H'[q]? = H[q]?) → W p l e F.2.1 s mm args below meth c H' (locs ++ [⟨gad E a, f.slot⟩]) cells slots (F.2.2.1 below args s) (F0 mm (pc + 3) lsM (st.map (gv E))) := by
    intro H' e1 e2 e3
    rw [hsl] at e1 ⊢
    exact h H' _ (hH.1.set hD he ⟨_, hcl, t_OB.to (V := updV (vp_V ((List.range (gNn ci)).map fun j => gfv E m a j (gty ci j))) k (gv E v)) ⟨_, e1, q2, q3, t_set q4 hap hkN (gv E v)⟩ (fun j _ => vp_updV_set (by simp; omega) (gv E v) j)⟩ e3) e2 (hS.put e2 e3 (hD.2 a.toNat _ he))
  rcases hfp with hfin | ⟨hfin, hini, hcown, hlk2⟩
  · rw [if_neg (by rw [hfin]; decide)] at hlay
    have h6 := u_store hfc hkC hkind hlay hi (hty k hkN) hn hfit
    rcases hlk with hlk | ⟨host, hlk⟩
    · exact W.putK hc.1 hc.2.1 (f := f) ⟨hc.2.2.2.2.1, hc.2.2.2.2.2.1 _ hlk, ⟨_, _, _, hi2⟩, hstt⟩ (by rw [q2]; exact h6) q1 q3 (by rw [hsl]; exact k2_hasslot (q4 k hkN)) rfl rfl hd fin
    · exact va_WputK hc.1 hc.2.1 (host := host) hc.2.2.2.2.1 (va_Nw.use rfl (hc.2.2.2.2.2.2.2.2.1.2.2.2.1 _ hlk rfl)) hi2 hstt (by rw [q2]; exact h6) q1 q3 (by rw [hsl]; exact k2_hasslot (q4 k hkN)) rfl rfl hd fin
  · rw [if_pos hfin] at hlay
    have hcf : mm.cls = cf := by
      obtain ⟨_, _, c', _, _, _, -, -, hf', -, -, -, hown2, -⟩ := Cond.laysFinal_spec hlay
      have e1 : c' = cf := by have := hi.symm.trans hf'; simp at this; exact this.1.symm
      rw [hC k hkN, hcown] at hown2
      rw [← e1]; exact Option.some.inj (hc.2.2.2.2.1.symm.trans hown2)
    have h6 := u_fits hfc hkC hkind (Or.inr hlay) hi (hty k hkN) hn hfit
    exact W.putFinK hc.1 hc.2.1 hc.2.2.2.2.1 (hc.2.2.2.2.2.1 _ hlk2) hi2 hstt hcf (hc.2.2.2.2.2.2.2.1 hini) (by rw [q2]; exact h6) q1 q3 (by rw [hsl]; exact k2_hasslot (q4 k hkN)) rfl rfl hd fin
theorem gup_o {V : Int → Int → Int} {a k x a' k' : Int} (h : a' ≠ a ∨ k' ≠ k) : gup V a k x a' k' = V a' k' := by
  unfold gup
  rw [if_neg]
  rintro ⟨h1, h2⟩
  rcases h with h | h
  · exact h h1
  · exact h h2
theorem gup_s {V : Int → Int → Int} {a k x : Int} : gup V a k x a k = x := by
  unfold gup
  rw [if_pos ⟨rfl, rfl⟩]
theorem gcell_upV {i : Nat} {a k x : Int} (k' : gK) (hi : (i : Int) ≠ a) : gcell E (K, R, gup V a k x) i k' = gcell E (K, R, V) i k' := by
  have e : ∀ j : Int, gup V a k x i j = V i j := fun j => gup_o (Or.inl hi)
  rcases k' with ci | ⟨t, n⟩
  · rw [gcell_obj, gcell_obj]
    congr 3
    funext j
    unfold gfv
    simp only [e]
  · by_cases ht : t < 2
    · rw [gcell_i _ _ _ ht, gcell_i _ _ _ ht]
      simp only [e]
    · rw [gcell_q _ _ _ ht, gcell_q _ _ _ ht]
theorem gcell_upR {i : Nat} {a k x : Int} (k' : gK) (hi : (i : Int) ≠ a) : gcell E (K, gup R a k x, V) i k' = gcell E (K, R, V) i k' := by
  have e : ∀ j : Int, gup R a k x i j = R i j := fun j => gup_o (Or.inl hi)
  rcases k' with ci | ⟨t, n⟩
  · rw [gcell_obj, gcell_obj]
    congr 3
    funext j
    unfold gfv
    simp only [e]
  · by_cases ht : t < 2
    · rw [gcell_i _ _ _ ht, gcell_i _ _ _ ht]
    · rw [gcell_q _ _ _ ht, gcell_q _ _ _ ht]
      simp only [e]
theorem gX_putI {idx ci k : Nat} {a x : Int} (hd : decode F.1.2.1 pc = .ok (.putfield idx, 3)) (hf : gFd F.1.1 idx ci k) (hfp : gFp F.1.1 idx ci k F.1.2.2.2.2) (ht : gty ci k = .int ∨ (gty ci k = .boolean ∧ (x = 0 ∨ x = 1))) (hk : kd (K, R, V) a = some (.inl ci)) (kk : gX l E F (pc + 3) ls st (K, R, gup V a k x) bc bs) : gX l E F pc ls (gi x :: ga a :: st) (K, R, V) bc bs := by
  refine gX_putf (m' := (K, R, gup V a k x)) hd hf hfp hk ?_ ?_ rfl (fun i k' hi => gcell_upV k' hi) (fun j => ?_) (fun h hv => gRg_up h (Or.inl hv)) kk
  · rcases ht with h | ⟨h, rfl | rfl⟩ <;> rw [h] <;> rfl
  · rcases ht with h | ⟨h, rfl | rfl⟩ <;> rw [h] <;> rfl
  · by_cases hj : j = k
    · subst hj
      rw [if_pos rfl]
      have e : gup V a j x a j = x := gup_s
      rcases ht with h | ⟨h, -⟩ <;> rw [h] <;> show gv E (gi (gup V a j x a j)) = _ <;> rw [e]
    · rw [if_neg hj]
      have e : gup V a k x a j = V a j := gup_o (Or.inr (by omega))
      unfold gfv
      simp only [e]
theorem gX_putL {idx ci k : Nat} {a x : Int} (hd : decode F.1.2.1 pc = .ok (.putfield idx, 3)) (hf : gFd F.1.1 idx ci k) (hfp : gFp F.1.1 idx ci k F.1.2.2.2.2) (ht : gty ci k = .long) (hk : kd (K, R, V) a = some (.inl ci)) (kk : gX l E F (pc + 3) ls st (K, R, gup V a k x) bc bs) : gX l E F pc ls (gl x :: ga a :: st) (K, R, V) bc bs := by
  refine gX_putf (m' := (K, R, gup V a k x)) hd hf hfp hk (by rw [ht]; rfl) (by rw [ht]; rfl) rfl (fun i k' hi => gcell_upV k' hi) (fun j => ?_) (fun h hv => gRg_up h (Or.inr ⟨?_, hv⟩)) kk
  · by_cases hj : j = k
    · subst hj
      rw [if_pos rfl, ht]
      have e : gup V a j x a j = x := gup_s
      show gv E (gl (gup V a j x a j)) = _
      rw [e]
    · rw [if_neg hj]
      have e : gup V a k x a j = V a j := gup_o (Or.inr (by omega))
      unfold gfv
      simp only [e]
  · unfold gLg
    rw [hk]
    simpa using ht
theorem gX_putR {idx ci k : Nat} {a b : Int} (hd : decode F.1.2.1 pc = .ok (.putfield idx, 3)) (hf : gFd F.1.1 idx ci k) (hfp : gFp F.1.1 idx ci k F.1.2.2.2.2) (ht : gIsR (gty ci k) = true) (hk : kd (K, R, V) a = some (.inl ci)) (kk : gX l E F (pc + 3) ls st (K, gup R a k b, V) bc bs) : gX l E F pc ls (ga b :: ga a :: st) (K, R, V) bc bs := by
  refine gX_putf (m' := (K, gup R a k b, V)) hd hf hfp hk ?_ ?_ rfl (fun i k' hi => gcell_upR k' hi) (fun j => ?_) (fun h hv => h) kk
  · rcases gv_ref_cat (E := E) (a := b) with ⟨q, h⟩ | h <;> rw [h] <;> cases hg : gty ci k <;> rw [hg] at ht <;> first | rfl | cases ht
  · rcases gv_ref_cat (E := E) (a := b) with ⟨q, h⟩ | h <;> rw [h] <;> cases hg : gty ci k <;> rw [hg] at ht <;> first | rfl | cases ht
  · by_cases hj : j = k
    · subst hj
      rw [if_pos rfl]
      have e : gup R a j b a j = b := gup_s
      cases hg : gty ci j <;> rw [hg] at ht <;> first | (show gv E (ga (gup R a j b a j)) = _; rw [e]) | cases ht
    · rw [if_neg hj]
      have e : gup R a k b a j = R a j := gup_o (Or.inr (by omega))
      unfold gfv
      simp only [e]
/-! arrays -/
theorem gX_iald {a i : Int} {n : Nat} (hd : decode F.1.2.1 pc = .ok (.iaload, 1)) (hk : kd (K, R, V) a = some (.inr (0, n))) (h0 : 0 ≤ i) (hn : i < n) (kk : gX l E F (pc + 1) ls (gi (V a i) :: st) (K, R, V) bc bs) : gX l E F pc ls (gi i :: ga a :: st) (K, R, V) bc bs := by
  intro p e s mm args below meth c H locs lsM cells slots hc hH hS hL hst h1 h2
  have he := gws_get (E := E) hk hH.2.2.1
  rw [gcell_i _ _ _ (by decide)] at he
  have hi : in32 i := gst_hd hst
  rw [List.map_cons, List.map_cons, gv_a (kd_pos hk)]
  refine va_iald (D := (E.1, E.2.1)) (cl := vwCl) (tys := gtys E) hc.1 hc.2.1 hc.2.2.2.2.2.2.2.2.1.1 hH.1 a.toNat 0 he rfl (i32_in hi h0 hn) hd ?_
  rw [i32_clamp hi]
  have h := kk p e s mm args below meth c H locs lsM cells slots hc hH hS hL (gst_cons (v := gi (V a i)) (gRg_32 (m := (K, R, V)) hH.2.2.2 (gLg_arr hk)) (gst_tl (gst_tl hst))) h1 h2
  show W _ _ _ _ _ _ _ _ _ _ _ _ _ _ _ (F0 mm (pc + 1) lsM (.int (Int32.ofInt (V a (i.toNat : Int))) :: st.map (gv E)))
  rw [Int.toNat_of_nonneg h0]
  exact h
theorem gX_zald {a i : Int} {n : Nat} (hd : decode F.1.2.1 pc = .ok (.baload, 1)) (hk : kd (K, R, V) a = some (.inr (1, n))) (h0 : 0 ≤ i) (hn : i < n) (kk : gX l E F (pc + 1) ls (gi (V a i) :: st) (K, R, V) bc bs) : gX l E F pc ls (gi i :: ga a :: st) (K, R, V) bc bs := by
  intro p e s mm args below meth c H locs lsM cells slots hc hH hS hL hst h1 h2
  have he := gws_get (E := E) hk hH.2.2.1
  rw [gcell_i _ _ _ (by decide)] at he
  have hi : in32 i := gst_hd hst
  rw [List.map_cons, List.map_cons, gv_a (kd_pos hk)]
  refine va_zald (D := (E.1, E.2.1)) (cl := vwCl) (tys := gtys E) hc.1 hc.2.1 hc.2.2.2.2.2.2.2.2.1.1 hH.1 a.toNat 1 he rfl (i32_in hi h0 hn) hd ?_
  rw [i32_clamp hi]
  have h := kk p e s mm args below meth c H locs lsM cells slots hc hH hS hL (gst_cons (v := gi (V a i)) (gRg_32 (m := (K, R, V)) hH.2.2.2 (gLg_arr hk)) (gst_tl (gst_tl hst))) h1 h2
  show W _ _ _ _ _ _ _ _ _ _ _ _ _ _ _ (F0 mm (pc + 1) lsM (.int (Int32.ofInt (V a (i.toNat : Int))) :: st.map (gv E)))
  rw [Int.toNat_of_nonneg h0]
  exact h
theorem gup_arr {V : Int → Int → Int} {a i x : Int} (h0 : 0 ≤ i) : (fun j : Nat => Int32.ofInt (gup V a i x a j)) = upd (fun j : Nat => Int32.ofInt (V a j)) i.toNat (Int32.ofInt x) := by
  funext j
  unfold upd gup
  by_cases hj : j = i.toNat
  · rw [if_pos hj, if_pos ⟨rfl, by omega⟩]
  · rw [if_neg hj, if_neg (fun z => hj (by omega))]
theorem gX_iast {a i x : Int} {n : Nat} (hd : decode F.1.2.1 pc = .ok (.iastore, 1)) (hk : kd (K, R, V) a = some (.inr (0, n))) (h0 : 0 ≤ i) (hn : i < n) (kk : gX l E F (pc + 1) ls st (K, R, gup V a i x) bc bs) : gX l E F pc ls (gi x :: gi i :: ga a :: st) (K, R, V) bc bs := by
  intro p e s mm args below meth c H locs lsM cells slots hc hH hS hL hst h1 h2
  have he := gws_get (E := E) hk hH.2.2.1
  rw [gcell_i _ _ _ (by decide)] at he
  have hx : in32 x := gst_hd hst
  have hi : in32 i := gst_hd (gst_tl hst)
  rw [List.map_cons, List.map_cons, List.map_cons, gv_a (kd_pos hk)]
  have hset := gws_set (E := E) (m' := (K, R, gup V a i x)) hk hH.2.2.1 rfl (fun j k' hj => gcell_upV k' hj) rfl
  rw [gcell_i _ _ _ (by decide)] at hset
  refine W.iast hc.1 hc.2.1 (hH.1 a.toNat _ he) ((hc.2.2.2.2.2.2.2.2.1.1.2 0 _ rfl).1 n (fun j => .int (Int32.ofInt (V a j)))) (fun q => by cases q) (by show ¬ (_ ∨ (arrV _ _ _).slots.size ≤ _); rw [arrV_size]; exact i32_in hi h0 hn) rfl rfl hd fun H1 e1 z oq => ?_
  have hD := gws_D E (K, R, V)
  refine kk p e s mm args below meth c H1 _ lsM cells slots hc ⟨?_, by rw [z]; exact hH.2.1, hH.2.2.1, gRg_up hH.2.2.2 (Or.inl hx)⟩ (hS.put z oq (hD.2 a.toNat _ he)) hL (gst_tl (gst_tl (gst_tl hst))) h1 h2
  rw [← hset]
  refine hH.1.set hD he ?_ oq
  show H1[gad E a]? = some (vp_cell _ _)
  rw [e1, i32_clamp hi]
  show some ((vp_cell _ (_, .inl _)).setSlot _ _) = _
  rw [vp_cell_i, vp_cell_i, arrV_store]
  congr 2
  funext q
  have eq1 := congrFun (gup_arr (V := V) (a := a) (i := i) (x := x) h0) q
  unfold upd at eq1
  show _ = Value.int (Int32.ofInt (gup V a i x a q))
  rw [eq1]
  by_cases hq : q = i.toNat
  · subst hq
    simp [updV]
  · simp [updV, hq]
theorem gX_zast {a i x : Int} {n : Nat} (hd : decode F.1.2.1 pc = .ok (.bastore, 1)) (hx01 : x = 0 ∨ x = 1) (hk : kd (K, R, V) a = some (.inr (1, n))) (h0 : 0 ≤ i) (hn : i < n) (kk : gX l E F (pc + 1) ls st (K, R, gup V a i x) bc bs) : gX l E F pc ls (gi x :: gi i :: ga a :: st) (K, R, V) bc bs := by
  intro p e s mm args below meth c H locs lsM cells slots hc hH hS hL hst h1 h2
  have he := gws_get (E := E) hk hH.2.2.1
  rw [gcell_i _ _ _ (by decide)] at he
  have hx : in32 x := gst_hd hst
  have hi : in32 i := gst_hd (gst_tl hst)
  rw [List.map_cons, List.map_cons, List.map_cons, gv_a (kd_pos hk)]
  have hset := gws_set (E := E) (m' := (K, R, gup V a i x)) hk hH.2.2.1 rfl (fun j k' hj => gcell_upV k' hj) rfl
  rw [gcell_i _ _ _ (by decide)] at hset
  refine W.zast hc.1 hc.2.1 (hH.1 a.toNat _ he) ((hc.2.2.2.2.2.2.2.2.1.1.2 1 _ rfl).1 n (fun j => .int (Int32.ofInt (V a j)))) (fun q => by cases q) (by show ¬ (_ ∨ (arrV _ _ _).slots.size ≤ _); rw [arrV_size]; exact i32_in hi h0 hn) rfl rfl hd fun H1 e1 z oq => ?_
  have hD := gws_D E (K, R, V)
  refine kk p e s mm args below meth c H1 _ lsM cells slots hc ⟨?_, by rw [z]; exact hH.2.1, hH.2.2.1, gRg_up hH.2.2.2 (Or.inl hx)⟩ (hS.put z oq (hD.2 a.toNat _ he)) hL (gst_tl (gst_tl (gst_tl hst))) h1 h2
  rw [← hset]
  refine hH.1.set hD he ?_ oq
  show H1[gad E a]? = some (vp_cell _ _)
  rw [e1, i32_clamp hi]
  have hnar : narrow .boolean (.int (Int32.ofInt x)) = .int (Int32.ofInt x) := by
    rcases hx01 with rfl | rfl <;> rfl
  show some ((vp_cell _ (_, .inl _)).setSlot _ _) = _
  rw [vp_cell_i, vp_cell_i, arrV_store]
  congr 2
  funext q
  have eq1 := congrFun (gup_arr (V := V) (a := a) (i := i) (x := x) h0) q
  unfold upd at eq1
  show _ = Value.int (Int32.ofInt (gup V a i x a q))
  rw [eq1]
  by_cases hq : q = i.toNat
  · subst hq
    simp [updV, hnar]
  · simp [updV, hq]
def gAt (t : Nat) : Option (String × Nat) := match t with
  | 2 => some (RX1, 1)
  | 3 => some (RX4, 4)
  | 4 => some (RX3, 3)
  | _ => none
theorem gAt_ty {E : gE} {t ci : Nat} {C : String} (h : gAt t = some (C, ci)) : ¬ t < 2 ∧ (gtys E)[t]? = some (E.2.2.1 t, .object C) ∧ ∃ r : vw_C, vwCl[ci]? = some r ∧ r.1 = C := by
  match t, h with
  | 2, h => cases h; exact ⟨by decide, rfl, _, rfl, rfl⟩
  | 3, h => cases h; exact ⟨by decide, rfl, _, rfl, rfl⟩
  | 4, h => cases h; exact ⟨by decide, rfl, _, rfl, rfl⟩
theorem gX_aald {a i b : Int} {t n ci : Nat} {C : String} (hd : decode F.1.2.1 pc = .ok (.aaload, 1)) (hk : kd (K, R, V) a = some (.inr (t, n))) (ht : gAt t = some (C, ci)) (h0 : 0 ≤ i) (hn : i < n) (hb : R a i = b) (kk : gX l E F (pc + 1) ls (ga b :: st) (K, R, V) bc bs) : gX l E F pc ls (gi i :: ga a :: st) (K, R, V) bc bs := by
  intro p e s mm args below meth c H locs lsM cells slots hc hH hS hL hst h1 h2
  subst hb
  obtain ⟨ht2, hty, -⟩ := gAt_ty (E := E) ht
  have he := gws_get (E := E) hk hH.2.2.1
  rw [gcell_q _ _ _ ht2] at he
  have hi : in32 i := gst_hd hst
  rw [List.map_cons, List.map_cons, gv_a (kd_pos hk)]
  refine va_aldq (D := (E.1, E.2.1)) (cl := vwCl) (tys := gtys E) hc.1 hc.2.1 hc.2.2.2.2.2.2.2.2.1.1 hH.1 a.toNat t he hty (i32_in hi h0 hn) hd ?_
  rw [i32_clamp hi]
  have h := kk p e s mm args below meth c H locs lsM cells slots hc hH hS hL (gst_cons (v := ga (R a i)) trivial (gst_tl (gst_tl hst))) h1 h2
  show W _ _ _ _ _ _ _ _ _ _ _ _ _ _ _ (F0 mm (pc + 1) lsM (va_rf (gro E (R a (i.toNat : Int))) :: st.map (gv E)))
  rw [Int.toNat_of_nonneg h0]
  exact h
theorem gup_arrR {R : Int → Int → Int} {a i b : Int} (h0 : 0 ≤ i) (hb : 0 ≤ b) : (fun j : Nat => gro E (gup R a i b a j)) = va_up (fun j : Nat => gro E (R a j)) i.toNat (some (gad E b)) := by
  funext j
  unfold va_up gup
  by_cases hj : j = i.toNat
  · rw [if_pos hj, if_pos ⟨rfl, by omega⟩]
    unfold gro
    rw [if_neg (by omega)]
  · rw [if_neg hj, if_neg (fun z => hj (by omega))]
theorem gX_aast {a i b : Int} {t n ci : Nat} {C : String} (hd : decode F.1.2.1 pc = .ok (.aastore, 1)) (hk : kd (K, R, V) a = some (.inr (t, n))) (ht : gAt t = some (C, ci)) (h0 : 0 ≤ i) (hn : i < n) (hkb : kd (K, R, V) b = some (.inl ci)) (kk : gX l E F (pc + 1) ls st (K, gup R a i b, V) bc bs) : gX l E F pc ls (ga b :: gi i :: ga a :: st) (K, R, V) bc bs := by
  intro p e s mm args below meth c H locs lsM cells slots hc hH hS hL hst h1 h2
  obtain ⟨ht2, hty, r, hr, hrC⟩ := gAt_ty (E := E) ht
  have he := gws_get (E := E) hk hH.2.2.1
  rw [gcell_q _ _ _ ht2] at he
  have heb := gws_get (E := E) hkb hH.2.2.1
  rw [gcell_obj] at heb
  have hi : in32 i := gst_hd (gst_tl hst)
  rw [List.map_cons, List.map_cons, List.map_cons, gv_a (kd_pos hk), gv_a (kd_pos hkb)]
  have hset := gws_set (E := E) (m' := (K, gup R a i b, V)) hk hH.2.2.1 rfl (fun j k' hj => gcell_upR k' hj) rfl
  rw [gcell_q _ _ _ ht2] at hset
  have hD := gws_D E (K, R, V)
  have hlt : i.toNat < n := by omega
  obtain ⟨r', hr', cellV, g1, g2, g3, -⟩ := hH.1 b.toNat _ heb
  have hK := hc.2.2.2.2.2.2.2.2.1.1
  have hcls := (hK.1 ci r hr).2
  obtain ⟨kA, comp, k1, k2, k3, -⟩ := (hK.2 t _ hty).2
  rw [hrC] at hcls
  have hcomp : comp = E.1 ci := Option.some.inj (k3.symm.trans hcls.1)
  subst hcomp
  obtain ⟨kC, hkC, -⟩ := hcls.2
  refine W.aast hc.1 hc.2.1 (hH.1 a.toNat _ he) (fun q h => by cases h) (fun h => by cases h) k1 k2 rfl hkC ⟨fun z => (i32_in hi h0 hn) (Or.inl z), by show _ < (arrV _ _ _).slots.size; rw [arrV_size, i32_clamp hi]; exact hlt⟩ g1 (fun q h => by rw [g3] at h; cases h) (by rw [g2]; exact hkC) (by rw [g2]; exact va_assign hcls) rfl rfl hd fun H1 e1 z oq => ?_
  refine kk p e s mm args below meth c H1 _ lsM cells slots hc ⟨?_, by rw [z]; exact hH.2.1, hH.2.2.1, hH.2.2.2⟩ (hS.put z oq (hD.2 a.toNat _ he)) hL (gst_tl (gst_tl (gst_tl hst))) h1 h2
  rw [← hset]
  refine hH.1.set hD he ?_ oq
  show H1[gad E a]? = some (vp_cell _ _)
  rw [e1, i32_clamp hi]
  show some ((vp_cell _ (_, .inr (.inr (.inr (.inr _))))).setSlot _ _) = _
  rw [vp_cell_q, vp_cell_q, arrV_store]
  congr 2
  funext q
  have eq1 := congrFun (gup_arrR (E := E) (R := R) (a := a) (i := i) (b := b) h0 (kd_pos hkb)) q
  unfold va_up at eq1
  show _ = va_rf (gro E (gup R a i b a q))
  rw [eq1]
  by_cases hq : q = i.toNat
  · subst hq
    simp [updV, va_rf]
  · simp [updV, hq]
theorem gX_alen {m : gM} {a : Int} {t n : Nat} (hd : decode F.1.2.1 pc = .ok (.arraylength, 1)) (hk : kd m a = some (.inr (t, n))) (ht : t < 5) (hn : n < 2147483648) (kk : gX l E F (pc + 1) ls (gi n :: st) m bc bs) : gX l E F pc ls (ga a :: st) m bc bs := by
  intro p e s mm args below meth c H locs lsM cells slots hc hH hS hL hst h1 h2
  have he := gws_get (E := E) hk hH.2.2.1
  have hty : ∃ ty, (gtys E)[t]? = some (E.2.2.1 t, ty) := by
    match t, ht with
    | 0, _ => exact ⟨_, rfl⟩
    | 1, _ => exact ⟨_, rfl⟩
    | 2, _ => exact ⟨_, rfl⟩
    | 3, _ => exact ⟨_, rfl⟩
    | 4, _ => exact ⟨_, rfl⟩
    | k + 5, h => omega
  obtain ⟨ty, hty⟩ := hty
  have h := kk p e s mm args below meth c H locs lsM cells slots hc hH hS hL (gst_cons (v := gi n) (in32_ofNat hn) (gst_tl hst)) h1 h2
  rw [List.map_cons, gv_a (kd_pos hk)]
  rw [List.map_cons] at h
  by_cases ht2 : t < 2
  · rw [gcell_i _ _ _ ht2] at he
    exact va_alen (D := (E.1, E.2.1)) (cl := vwCl) (tys := gtys E) hc.1 hc.2.1 hc.2.2.2.2.2.2.2.2.1.1 hH.1 a.toNat t he hty (v := Int32.ofInt n) (i32_nat n).symm hd h
  · rw [gcell_q _ _ _ ht2] at he
    exact va_alen (D := (E.1, E.2.1)) (cl := vwCl) (tys := gtys E) hc.1 hc.2.1 hc.2.2.2.2.2.2.2.2.1.1 hH.1 a.toNat t he hty (v := Int32.ofInt n) (i32_nat n).symm hd h
end HEAP
