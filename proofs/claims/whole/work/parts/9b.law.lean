/-! THE CLAIM OUT OF ONE WALK OF THE LAW'S BODY. Your part is whole_start (and what it stands on); all else here is the same for every law, but numbers. -/
def R_law : String := "GlossedBooksLaw"
def lw_P (b : Addr) (xs : List Int32) (args : Array Value) (s : State) : Prop := args = #[.ref b] ∧ s.IntsAt b xs ∧ xs.length ≤ 2560 ∧ (Jvm.Cond.and given_1 narrow_1).before args s = true
def lw_Q (_ : Array Value) (s : State) (o : Outcome) (t : State) : Prop := o = .returned (some (.int 1)) ∧ Framed s o t [] 600000 7302250
def lw_Z (below : List Frame) (a : Array Value) (s : State) : State → Prop := fun t => ∃ o, t.status = .running ∧ Ended t below o ∧ lw_Q a s o t
/-- the law's own end, with 1 on the stack, nothing written that was there before, its room as the claim has it -/
theorem lw_ret {p : Program} {l : Launch} {e : Env} {s : State} {m : MethodId} {below : List Frame} {meth : Method} {c : Code} {b : Nat} (hx : p.tables.exec = Jvm.exec) (hb : c.code = code) (hr : meth.sig.returnType = ret) (hlocks : meth.locks = false) {pc : Nat} {H : Heap} {ls : Array Slot} (hdg : decode code pc = .ok (.ireturn, 1)) : W p l e room_1 s m #[Value.ref b] below meth c H [] 600000 7302250 (lw_Z below #[Value.ref b] s) (F0 m pc ls [.int 1]) := by
  intro T hT X
  obtain ⟨fs, hret, hrun, hended, hW, hframe⟩ := X.leave (v := some (.int 1)) (hlocks := hlocks) (fun h => by rw [hr] at h; cases h)
  have hmeth' : T.vm.method? m = some meth := X.method'
  refine ⟨T.setFrames fs, ?_, .returned (some (.int 1)), hrun, hended, rfl, ⟨_, rfl⟩, hW, hframe⟩
  jvm_step X.here [X.here.top, hx, hb, hdg, hmeth', hr, ret, narrow_b1]
  (try refine ⟨rfl, ?_⟩); (try refine ⟨rfl, ?_⟩)
  first | (intro acts; rw [hret _ acts rfl rfl rfl]) | rw [hret _ _ rfl rfl rfl]
  exact Steps.refl _
/-- what holds at the law's entry: the machine, the code, the tables' words (any of lw_tbl by 'hts w (by decide +kernel)'), the script of L ints xs at the cell b, what the Statement gives of the start (any of its parts by flat_of_before) -/
def lw_At (p : Program) (s : State) (m : MethodId) (meth : Method) (c : Code) (b L : Nat) (xs : Nat → Int32) : Prop :=
  p.tables.exec = Jvm.exec ∧ c.code = code ∧ meth.sig.returnType = ret ∧ c.maxLocals = 4 ∧ s.vm.findClass R_law = some m.cls ∧ (∀ w ∈ lw_tbl, w.before #[Value.ref b] s = true) ∧ va_X b L xs s s.heap ∧ b < s.heap.size ∧ meth.locks = false ∧ (Jvm.Cond.and given_1 narrow_1).before #[Value.ref b] s = true
/-! The law's own frame in the small logic. Written by wip/whole/tools/mk_law.py. -/
/-- the law's frame: the script is the cell b, of L ints xs -/
def lwF (b L : Nat) (xs : Nat → Int32) (n0 : Nat) : gF := ((RL, code, 4, ret, false), room_1, fun below args s => lw_Z below args s, fun s => va_X b L xs s s.heap ∧ s.heap.size ≤ n0 ∧ b < s.heap.size)
def sx (xs : Nat → Int32) (i : Int) : Int := (xs i.toNat).toInt
theorem sx_in (xs : Nat → Int32) (i : Int) : in32 (sx xs i) := in32_toInt _
theorem lwFit {b L n0 : Nat} {xs : Nat → Int32} {d : Nat} {I : gI} (hd : d ≤ 1000) (h : I.2.2.2.2.1 ≤ 41) : gFit (lwF b L xs n0) d I := ⟨by show d + 1 ≤ 2048; omega, by show 8 + (I.2.2.2.2.1 + 11) + (60 * d + 20) ≤ 84000; omega⟩
theorem gcmp_s (x : Int) : gcmp x x = 0 := by unfold gcmp; simp
section LAW
variable {l : Launch} {E : gE} {b L : Nat} {xs : Nat → Int32} {pc : Nat} {ls : gL} {st : List gV} {m : gM} {bc bs : Nat}
def lwE (E : gE) (b : Nat) : Prop := E.2.2.2.2.2 10 = b ∧ b < gB E
theorem lwE.ad (h : lwE E b) : gv E (ga 2000010) = .ref b := by
  rw [gv_a (by decide)]
  unfold gad
  rw [if_neg (by decide), if_neg (by decide)]
  exact congrArg _ h.1
theorem lwLen (hE : lwE E b) (hd : decode code pc = .ok (.arraylength, 1)) (hL : L ≤ 2560) (kk : gX l E (lwF b L xs (gB E)) (pc + 1) ls (gi (L : Int) :: st) m bc bs) : gX l E (lwF b L xs (gB E)) pc ls (ga 2000010 :: st) m bc bs := by
  intro p e s mm args below meth c H locs lsM cells slots hc hH hS hLR hst h1 h2
  have h := kk p e s mm args below meth c H locs lsM cells slots hc hH hS hLR (gst_cons (v := gi (L : Int)) (show in32 (L : Int) from in32_ofNat (by omega)) (gst_tl hst)) h1 h2
  rw [List.map_cons] at h ⊢
  rw [hE.ad]
  have hx := hc.2.2.2.2.2.2.2.2.2
  refine va_slen hc.1 hc.2.1 hx.1 hx.2.2 (fun z => Nat.lt_irrefl _ (Nat.lt_of_lt_of_le hE.2 z)) hS hd ?_
  have e1 : gv E (gi (L : Int)) = .int (Int32.ofNat L) := congrArg _ (i32_nat L)
  rw [e1] at h
  exact h
theorem lwLd {i : Int} (hE : lwE E b) (hd : decode code pc = .ok (.iaload, 1)) (hL : L ≤ 2560) (i0 : 0 ≤ i) (i1 : i < L) (kk : gX l E (lwF b L xs (gB E)) (pc + 1) ls (gi (sx xs i) :: st) m bc bs) : gX l E (lwF b L xs (gB E)) pc ls (gi i :: ga 2000010 :: st) m bc bs := by
  intro p e s mm args below meth c H locs lsM cells slots hc hH hS hLR hst h1 h2
  have h := kk p e s mm args below meth c H locs lsM cells slots hc hH hS hLR (gst_cons (v := gi (sx xs i)) (sx_in xs i) (gst_tl (gst_tl hst))) h1 h2
  rw [List.map_cons] at h
  rw [List.map_cons, List.map_cons, hE.ad]
  have hx := hc.2.2.2.2.2.2.2.2.2
  have ir : in32 i := ⟨by omega, by omega⟩
  refine va_sld (i := Int32.ofInt i) hc.1 hc.2.1 hx.1 hx.2.2 (fun z => Nat.lt_irrefl _ (Nat.lt_of_lt_of_le hE.2 z)) hS (i32_in ir i0 i1) hd ?_
  have e1 : gv E (gi (sx xs i)) = .int (xs (Int32.ofInt i).toNatClampNeg) := by
    rw [i32_clamp ir]
    show Value.int (Int32.ofInt (xs i.toNat).toInt) = _
    rw [Int32.ofInt_toInt]
  rw [e1] at h
  exact h
theorem lw_retA {p : Program} {e : Env} {s : State} {m : MethodId} {below : List Frame} {meth : Method} {c : Code} {args : Array Value} (hx : p.tables.exec = Jvm.exec) (hb : c.code = code) (hr : meth.sig.returnType = ret) (hlocks : meth.locks = false) {pc : Nat} {H : Heap} {ls : Array Slot} (hdg : decode code pc = .ok (.ireturn, 1)) : W p l e room_1 s m args below meth c H [] 600000 7302250 (lw_Z below args s) (F0 m pc ls [.int 1]) := by
  intro T hT X
  obtain ⟨fs, hret, hrun, hended, hW, hframe⟩ := X.leave (v := some (.int 1)) (hlocks := hlocks) (fun h => by rw [hr] at h; cases h)
  have hmeth' : T.vm.method? m = some meth := X.method'
  refine ⟨T.setFrames fs, ?_, .returned (some (.int 1)), hrun, hended, rfl, ⟨_, rfl⟩, hW, hframe⟩
  jvm_step X.here [X.here.top, hx, hb, hdg, hmeth', hr, ret, narrow_b1]
  (try refine ⟨rfl, ?_⟩); (try refine ⟨rfl, ?_⟩)
  first | (intro acts; rw [hret _ acts rfl rfl rfl]) | rw [hret _ _ rfl rfl rfl]
  exact Steps.refl _
theorem lwEnd (hd : decode code pc = .ok (.ireturn, 1)) : gX l E (lwF b L xs (gB E)) pc ls [gi 1] m bc bs := by
  intro p e s mm args below meth c H locs lsM cells slots hc hH hS hLR hst h1 h2
  have hx := hc.2.2.2.2.2.2.2.2.2
  refine va_forget (fun q hq => Nat.le_trans hx.2.1 (hS.2.2 q hq)) ?_
  refine W.widen (k := 600000) (n := 7302250) (by have : cells + bc ≤ 600000 := h1; omega) (by have : slots + bs ≤ 7302250 := h2; omega) ?_
  exact lw_retA hc.1 hc.2.1 hc.2.2.1 hc.2.2.2.2.2.2.1 hd
end LAW
theorem mdIs.cls {V V' : Int → Int → Int} {S : gbS} (h : mdIs V S) (hf : gFr V V' 0 775) : mdIs V' S := by
  have hf2 : ∀ x, 776 ≤ x → x ≤ 799 → V' x = V x := fun x h1 h2 => hf x (by omega)
  have h5 : V' 775 = V 775 := hf 775 (by omega)
  refine ⟨by rw [h5]; exact h.1, h.2.1, by rw [h5]; exact h.2.2.1, fun b b0 b1 => (h.2.2.2.1 b b0 b1).kept hf2, h.2.2.2.2.1, fun b b0 b1 => (h.2.2.2.2.2.1 b b0 b1).kept hf2, ?_⟩
  have ht := h.2.2.2.2.2.2
  unfold tdIs at ht ⊢
  rw [h5, hf2 790 (by omega) (by omega)]
  exact ht
theorem gbIs.ref {V V' : Int → Int → Int} {S : gbS} (h : gbIs V S) (hf : ∀ a, a < 775 → V' a = V a) : gbIs V' S := by
  have hl := h.2.1
  refine h.frB (ys := S.2.2.1) (fa := S.2.2.2) (fun a a1 a2 => hf a (by omega)) (fun a a1 a2 => hf a (by omega)) (by rw [hf 0 (by omega)]; exact h.1) (by rw [hf 0 (by omega)]; exact h.2.2.1) ?_
  have z := h.2.2.2.2.2.2
  unfold rIs at z ⊢
  rw [hf 13 (by omega), hf (13 + 1) (by omega)]
  exact z
section LAWC
variable {l : Launch} {E : gE} {b L : Nat} {xs : Nat → Int32} {K : List gK} {R V : Int → Int → Int} {S : gbS} {i : Int} {bc bs : Nat}
set_option maxRecDepth 8000 in
theorem lwC0 (hE : lwE E b) (hL : L ≤ 2560) (hG : gbK K R 3 12 15 16 19 25 32 37) (hM : mdK K R) (hS : gbIs V S) (hT : mdIs V S) (hI : siS S) (h0 : 0 ≤ i) (h1 : i + 5 ≤ L) (hk : ∀ (V' : Int → Int → Int) (S' : gbS) (bc bs : Nat), gbIs V' S' → mdIs V' S' → siS S' → gX l E (lwF b L xs (gB E)) 18 [some (ga 2000010), some (ga 0), some (ga 775), some (gi (i + 5))] [] (K, R, V') bc bs) : gX l E (lwF b L xs (gB E)) 160 [some (ga 2000010), some (ga 0), some (ga 775), some (gi (i))] [] (K, R, V) bc bs := by
  have z1 := sx_in xs (i + 1)
  have z2 := sx_in xs (i + 2)
  have z3 := sx_in xs (i + 3)
  have z4 := sx_in xs (i + 4)
  refine gX_aloadn dL_law_160 rfl ?_
  refine gX_aloadn dL_law_161 rfl ?_
  refine gX_iloadn dL_law_162 rfl ?_
  refine gX_iconst dL_law_163 ⟨by decide, by decide⟩ ?_
  refine gX_iadd dL_law_164 ⟨by omega, by omega⟩ ?_
  refine lwLd hE dL_law_165 hL (by omega) (by omega) ?_
  refine gX_aloadn dL_law_166 rfl ?_
  refine gX_iloadn dL_law_167 rfl ?_
  refine gX_iconst dL_law_168 ⟨by decide, by decide⟩ ?_
  refine gX_iadd dL_law_169 ⟨by omega, by omega⟩ ?_
  refine lwLd hE dL_law_170 hL (by omega) (by omega) ?_
  refine gX_i2l dL_law_171 ?_
  refine gX_bipush dL_law_172 (by decide) ⟨by decide, by decide⟩ ?_
  refine gX_lshl dL_law_174 ?_
  refine gX_aloadn dL_law_175 rfl ?_
  refine gX_iloadn dL_law_176 rfl ?_
  refine gX_iconst dL_law_177 ⟨by decide, by decide⟩ ?_
  refine gX_iadd dL_law_178 ⟨by omega, by omega⟩ ?_
  refine lwLd hE dL_law_179 hL (by omega) (by omega) ?_
  refine gX_i2l dL_law_180 ?_
  refine gX_ldc2 (x := 4294967295) dL_law_181 clL_13 (by decide) ⟨by decide, by decide⟩ ?_
  refine gX_land dL_law_184 ?_
  refine gX_lor dL_law_185 ?_
  refine gX_virt (J := iX11_feed) (av := [gi (sx xs (i + 1)), gl (glor (glshl (sx xs (i + 2)) 32) (gland (sx xs (i + 3)) 4294967295))]) (a := 0) (st := []) dL_law_186 lkL_15 kX11_feed vX11_feed (lwFit (d := 40) (by decide) (by decide)) hG.2.1 rfl rfl (Nat.le_of_ble_eq_true rfl) (Nat.zero_le _) (Nat.zero_le _) rfl ?_
  refine c_feed (d := 38) hG hS (fun V1 hS1 hf1 => ?_)
  show gX l E _ 189 [some (ga 2000010), some (ga 0), some (ga 775), some (gi i)] [gi ((aFeed S (sx xs (i + 1)) (glor (glshl (sx xs (i + 2)) 32) (gland (sx xs (i + 3)) 4294967295))).1)] (K, R, V1) _ _
  have hT1 := hT.cls hf1
  refine gX_aloadn dL_law_189 rfl ?_
  refine gX_aloadn dL_law_190 rfl ?_
  refine gX_iloadn dL_law_191 rfl ?_
  refine gX_iconst dL_law_192 ⟨by decide, by decide⟩ ?_
  refine gX_iadd dL_law_193 ⟨by omega, by omega⟩ ?_
  refine lwLd hE dL_law_194 hL (by omega) (by omega) ?_
  refine gX_aloadn dL_law_195 rfl ?_
  refine gX_iloadn dL_law_196 rfl ?_
  refine gX_iconst dL_law_197 ⟨by decide, by decide⟩ ?_
  refine gX_iadd dL_law_198 ⟨by omega, by omega⟩ ?_
  refine lwLd hE dL_law_199 hL (by omega) (by omega) ?_
  refine gX_i2l dL_law_200 ?_
  refine gX_bipush dL_law_201 (by decide) ⟨by decide, by decide⟩ ?_
  refine gX_lshl dL_law_203 ?_
  refine gX_aloadn dL_law_204 rfl ?_
  refine gX_iloadn dL_law_205 rfl ?_
  refine gX_iconst dL_law_206 ⟨by decide, by decide⟩ ?_
  refine gX_iadd dL_law_207 ⟨by omega, by omega⟩ ?_
  refine lwLd hE dL_law_208 hL (by omega) (by omega) ?_
  refine gX_i2l dL_law_209 ?_
  refine gX_ldc2 (x := 4294967295) dL_law_210 clL_13 (by decide) ⟨by decide, by decide⟩ ?_
  refine gX_land dL_law_213 ?_
  refine gX_lor dL_law_214 ?_
  refine gX_virt (J := iX12_feed) (av := [gi (sx xs (i + 1)), gl (glor (glshl (sx xs (i + 2)) 32) (gland (sx xs (i + 3)) 4294967295))]) (a := 775) (st := [gi ((aFeed S (sx xs (i + 1)) (glor (glshl (sx xs (i + 2)) 32) (gland (sx xs (i + 3)) 4294967295))).1)]) dL_law_215 lkL_19 kX12_feed vX12_feed (lwFit (d := 40) (by decide) (by decide)) hM.1 rfl rfl (Nat.le_of_ble_eq_true rfl) (Nat.zero_le _) (Nat.zero_le _) rfl ?_
  refine m_feed (d := 38) hM hT1 (fun V2 hT2 hf2  => ?_)
  show gX l E _ 218 [some (ga 2000010), some (ga 0), some (ga 775), some (gi i)] [gi ((aFeed S (sx xs (i + 1)) (glor (glshl (sx xs (i + 2)) 32) (gland (sx xs (i + 3)) 4294967295))).1), gi ((aFeed S (sx xs (i + 1)) (glor (glshl (sx xs (i + 2)) 32) (gland (sx xs (i + 3)) 4294967295))).1)] (K, R, V2) _ _
  refine gX_icmpeq (tgt := 1192) dL_law_218 (by decide) (fun w1 => ?_) (fun w1 => ?_)
  · refine gX_iinc dL_law_1192 rfl (show (3 : Nat) < 4 from by decide) ⟨by omega, by omega⟩ (ls2 := [some (ga 2000010), some (ga 0), some (ga 775), some (gi (i + 5))]) rfl ?_
    refine gX_goto (tgt := 18) dL_law_1195 (by decide) ?_
    exact hk V2 _ _ _ (hS1.ref (fun a ha => hf2 a (by omega))) hT2 (hI.feed)
  · first
    | exact absurd rfl (by assumption)
    | exact absurd (gcmp_s _) (by assumption)
    | (exfalso; omega)
set_option maxRecDepth 8000 in
theorem lwC1 (hE : lwE E b) (hL : L ≤ 2560) (hG : gbK K R 3 12 15 16 19 25 32 37) (hM : mdK K R) (hS : gbIs V S) (hT : mdIs V S) (hI : siS S) (h0 : 0 ≤ i) (h1 : i + 5 ≤ L) (hk : ∀ (V' : Int → Int → Int) (S' : gbS) (bc bs : Nat), gbIs V' S' → mdIs V' S' → siS S' → gX l E (lwF b L xs (gB E)) 18 [some (ga 2000010), some (ga 0), some (ga 775), some (gi (i + 5))] [] (K, R, V') bc bs) : gX l E (lwF b L xs (gB E)) 223 [some (ga 2000010), some (ga 0), some (ga 775), some (gi (i))] [] (K, R, V) bc bs := by
  have z1 := sx_in xs (i + 1)
  have z2 := sx_in xs (i + 2)
  have z3 := sx_in xs (i + 3)
  have z4 := sx_in xs (i + 4)
  refine gX_aloadn dL_law_223 rfl ?_
  refine gX_virt (J := iX11_book) (av := []) (a := 0) (st := []) dL_law_224 lkL_20 kX11_book vX11_book (lwFit (d := 40) (by decide) (by decide)) hG.2.1 rfl rfl (Nat.le_of_ble_eq_true rfl) (Nat.zero_le _) (Nat.zero_le _) rfl ?_
  refine c_book (d := 34) hG hS (by have := bkR_u S.2.2.1 (V 15 2); omega) (fun V1 hS1 hf1 => ?_)
  show gX l E _ 227 [some (ga 2000010), some (ga 0), some (ga 775), some (gi i)] [gi ((aBook S (V 15 2)).1)] (K, R, V1) _ _
  have hT1 := hT.cls hf1
  refine gX_aloadn dL_law_227 rfl ?_
  refine gX_virt (J := iX12_book) (av := []) (a := 775) (st := [gi ((aBook S (V 15 2)).1)]) dL_law_228 lkL_24 kX12_book vX12_book (lwFit (d := 40) (by decide) (by decide)) hM.1 rfl rfl (Nat.le_of_ble_eq_true rfl) (Nat.zero_le _) (Nat.zero_le _) rfl ?_
  refine m_book (d := 35) (lf0 := V 15 2) hM hT1 hI.2.2.2 (fun V2 hT2 hf2 hb2 => ?_)
  show gX l E _ 231 [some (ga 2000010), some (ga 0), some (ga 775), some (gi i)] [gi ((aBook S (V 15 2)).1), gi ((aBook S (V 15 2)).1)] (K, R, V2) _ _
  refine gX_icmpeq (tgt := 1192) dL_law_231 (by decide) (fun w1 => ?_) (fun w1 => ?_)
  · refine gX_iinc dL_law_1192 rfl (show (3 : Nat) < 4 from by decide) ⟨by omega, by omega⟩ (ls2 := [some (ga 2000010), some (ga 0), some (ga 775), some (gi (i + 5))]) rfl ?_
    refine gX_goto (tgt := 18) dL_law_1195 (by decide) ?_
    exact hk V2 _ _ _ (hS1.ref (fun a ha => hf2 a (by omega))) hT2 (hI.book hb2)
  · first
    | exact absurd rfl (by assumption)
    | exact absurd (gcmp_s _) (by assumption)
    | (exfalso; omega)
set_option maxRecDepth 8000 in
theorem lwC2 (hE : lwE E b) (hL : L ≤ 2560) (hG : gbK K R 3 12 15 16 19 25 32 37) (hM : mdK K R) (hS : gbIs V S) (hT : mdIs V S) (hI : siS S) (h0 : 0 ≤ i) (h1 : i + 5 ≤ L) (hk : ∀ (V' : Int → Int → Int) (S' : gbS) (bc bs : Nat), gbIs V' S' → mdIs V' S' → siS S' → gX l E (lwF b L xs (gB E)) 18 [some (ga 2000010), some (ga 0), some (ga 775), some (gi (i + 5))] [] (K, R, V') bc bs) : gX l E (lwF b L xs (gB E)) 236 [some (ga 2000010), some (ga 0), some (ga 775), some (gi (i))] [] (K, R, V) bc bs := by
  have z1 := sx_in xs (i + 1)
  have z2 := sx_in xs (i + 2)
  have z3 := sx_in xs (i + 3)
  have z4 := sx_in xs (i + 4)
  refine gX_aloadn dL_law_236 rfl ?_
  refine gX_aloadn dL_law_237 rfl ?_
  refine gX_iloadn dL_law_238 rfl ?_
  refine gX_iconst dL_law_239 ⟨by decide, by decide⟩ ?_
  refine gX_iadd dL_law_240 ⟨by omega, by omega⟩ ?_
  refine lwLd hE dL_law_241 hL (by omega) (by omega) ?_
  refine gX_virt (J := iX11_hand) (av := [gi (sx xs (i + 1))]) (a := 0) (st := []) dL_law_242 lkL_25 kX11_hand vX11_hand (lwFit (d := 40) (by decide) (by decide)) hG.2.1 rfl rfl (Nat.le_of_ble_eq_true rfl) (Nat.zero_le _) (Nat.zero_le _) rfl ?_
  refine c_hand (d := 30) hG hS (by have := (hdR_ok S.2.2.1).1; omega) (fun V1 hS1 hf1 => ?_)
  show gX l E _ 245 [some (ga 2000010), some (ga 0), some (ga 775), some (gi i)] [gi ((aHand S (sx xs (i + 1))).1)] (K, R, V1) _ _
  have hT1 := hT.cls hf1
  refine gX_aloadn dL_law_245 rfl ?_
  refine gX_aloadn dL_law_246 rfl ?_
  refine gX_iloadn dL_law_247 rfl ?_
  refine gX_iconst dL_law_248 ⟨by decide, by decide⟩ ?_
  refine gX_iadd dL_law_249 ⟨by omega, by omega⟩ ?_
  refine lwLd hE dL_law_250 hL (by omega) (by omega) ?_
  refine gX_virt (J := iX12_hand) (av := [gi (sx xs (i + 1))]) (a := 775) (st := [gi ((aHand S (sx xs (i + 1))).1)]) dL_law_251 lkL_29 kX12_hand vX12_hand (lwFit (d := 40) (by decide) (by decide)) hM.1 rfl rfl (Nat.le_of_ble_eq_true rfl) (Nat.zero_le _) (Nat.zero_le _) rfl ?_
  refine m_hand (d := 35) hM hT1 hI.2.2.2 (by have := (hdR_ok S.2.2.1).1; omega) (fun V2 hT2 hf2  => ?_)
  show gX l E _ 254 [some (ga 2000010), some (ga 0), some (ga 775), some (gi i)] [gi ((aHand S (sx xs (i + 1))).1), gi ((aHand S (sx xs (i + 1))).1)] (K, R, V2) _ _
  refine gX_icmpeq (tgt := 1192) dL_law_254 (by decide) (fun w1 => ?_) (fun w1 => ?_)
  · refine gX_iinc dL_law_1192 rfl (show (3 : Nat) < 4 from by decide) ⟨by omega, by omega⟩ (ls2 := [some (ga 2000010), some (ga 0), some (ga 775), some (gi (i + 5))]) rfl ?_
    refine gX_goto (tgt := 18) dL_law_1195 (by decide) ?_
    exact hk V2 _ _ _ (hS1.ref (fun a ha => hf2 a (by omega))) hT2 (hI.hand hT.2.2.2.2.1)
  · first
    | exact absurd rfl (by assumption)
    | exact absurd (gcmp_s _) (by assumption)
    | (exfalso; omega)
set_option maxRecDepth 8000 in
theorem lwC3 (hE : lwE E b) (hL : L ≤ 2560) (hG : gbK K R 3 12 15 16 19 25 32 37) (hM : mdK K R) (hS : gbIs V S) (hT : mdIs V S) (hI : siS S) (h0 : 0 ≤ i) (h1 : i + 5 ≤ L) (hk : ∀ (V' : Int → Int → Int) (S' : gbS) (bc bs : Nat), gbIs V' S' → mdIs V' S' → siS S' → gX l E (lwF b L xs (gB E)) 18 [some (ga 2000010), some (ga 0), some (ga 775), some (gi (i + 5))] [] (K, R, V') bc bs) : gX l E (lwF b L xs (gB E)) 259 [some (ga 2000010), some (ga 0), some (ga 775), some (gi (i))] [] (K, R, V) bc bs := by
  have z1 := sx_in xs (i + 1)
  have z2 := sx_in xs (i + 2)
  have z3 := sx_in xs (i + 3)
  have z4 := sx_in xs (i + 4)
  refine gX_aloadn dL_law_259 rfl ?_
  refine gX_virt (J := iX11_fault) (av := []) (a := 0) (st := []) dL_law_260 lkL_30 kX11_fault vX11_fault (lwFit (d := 40) (by decide) (by decide)) hG.2.1 rfl rfl (Nat.le_of_ble_eq_true rfl) (Nat.zero_le _) (Nat.zero_le _) rfl ?_
  refine c_fault (d := 39) hG hS (fun V1 hS1 hf1 => ?_)
  show gX l E _ 263 [some (ga 2000010), some (ga 0), some (ga 775), some (gi i)] [gi S.2.2.2] (K, R, V1) _ _
  have hT1 := hT.cls hf1
  refine gX_aloadn dL_law_263 rfl ?_
  refine gX_virt (J := iX12_fault) (av := []) (a := 775) (st := [gi S.2.2.2]) dL_law_264 lkL_33 kX12_fault vX12_fault (lwFit (d := 40) (by decide) (by decide)) hM.1 rfl rfl (Nat.le_of_ble_eq_true rfl) (Nat.zero_le _) (Nat.zero_le _) rfl ?_
  refine m_fault (d := 39) hM hT1 (fun V2 q2 => ?_)
  show gX l E _ 267 [some (ga 2000010), some (ga 0), some (ga 775), some (gi i)] [gi S.2.2.2, gi S.2.2.2] (K, R, V2) _ _
  refine gX_icmpeq (tgt := 1192) dL_law_267 (by decide) (fun w1 => ?_) (fun w1 => ?_)
  · refine gX_iinc dL_law_1192 rfl (show (3 : Nat) < 4 from by decide) ⟨by omega, by omega⟩ (ls2 := [some (ga 2000010), some (ga 0), some (ga 775), some (gi (i + 5))]) rfl ?_
    refine gX_goto (tgt := 18) dL_law_1195 (by decide) ?_
    rw [show i + 5 = i + 5 from rfl]
    exact hk V2 S _ _ (hS1.ref (fun a ha => q2.1 a (by omega))) (hT1.look q2) hI
  · first
    | exact absurd rfl (by assumption)
    | exact absurd (gcmp_s _) (by assumption)
    | (exfalso; omega)
set_option maxRecDepth 8000 in
theorem lwC4 (hE : lwE E b) (hL : L ≤ 2560) (hG : gbK K R 3 12 15 16 19 25 32 37) (hM : mdK K R) (hS : gbIs V S) (hT : mdIs V S) (hI : siS S) (h0 : 0 ≤ i) (h1 : i + 5 ≤ L) (hk : ∀ (V' : Int → Int → Int) (S' : gbS) (bc bs : Nat), gbIs V' S' → mdIs V' S' → siS S' → gX l E (lwF b L xs (gB E)) 18 [some (ga 2000010), some (ga 0), some (ga 775), some (gi (i + 5))] [] (K, R, V') bc bs) : gX l E (lwF b L xs (gB E)) 272 [some (ga 2000010), some (ga 0), some (ga 775), some (gi (i))] [] (K, R, V) bc bs := by
  have z1 := sx_in xs (i + 1)
  have z2 := sx_in xs (i + 2)
  have z3 := sx_in xs (i + 3)
  have z4 := sx_in xs (i + 4)
  refine gX_aloadn dL_law_272 rfl ?_
  refine gX_aloadn dL_law_273 rfl ?_
  refine gX_iloadn dL_law_274 rfl ?_
  refine gX_iconst dL_law_275 ⟨by decide, by decide⟩ ?_
  refine gX_iadd dL_law_276 ⟨by omega, by omega⟩ ?_
  refine lwLd hE dL_law_277 hL (by omega) (by omega) ?_
  refine gX_aloadn dL_law_278 rfl ?_
  refine gX_iloadn dL_law_279 rfl ?_
  refine gX_iconst dL_law_280 ⟨by decide, by decide⟩ ?_
  refine gX_iadd dL_law_281 ⟨by omega, by omega⟩ ?_
  refine lwLd hE dL_law_282 hL (by omega) (by omega) ?_
  refine gX_virt (J := iX11_habit) (av := [gi (sx xs (i + 1)), gi (sx xs (i + 2))]) (a := 0) (st := []) dL_law_283 lkL_34 kX11_habit vX11_habit (lwFit (d := 40) (by decide) (by decide)) hG.2.1 rfl rfl (Nat.le_of_ble_eq_true rfl) (Nat.zero_le _) (Nat.zero_le _) rfl ?_
  refine c_habit (d := 38) hG hS (fun V1 hS1 hf1 => ?_)
  show gX l E _ 286 [some (ga 2000010), some (ga 0), some (ga 775), some (gi i)] [gi (aHabit S (sx xs (i + 1)) (sx xs (i + 2)))] (K, R, V1) _ _
  have hT1 := hT.cls hf1
  refine gX_aloadn dL_law_286 rfl ?_
  refine gX_aloadn dL_law_287 rfl ?_
  refine gX_iloadn dL_law_288 rfl ?_
  refine gX_iconst dL_law_289 ⟨by decide, by decide⟩ ?_
  refine gX_iadd dL_law_290 ⟨by omega, by omega⟩ ?_
  refine lwLd hE dL_law_291 hL (by omega) (by omega) ?_
  refine gX_aloadn dL_law_292 rfl ?_
  refine gX_iloadn dL_law_293 rfl ?_
  refine gX_iconst dL_law_294 ⟨by decide, by decide⟩ ?_
  refine gX_iadd dL_law_295 ⟨by omega, by omega⟩ ?_
  refine lwLd hE dL_law_296 hL (by omega) (by omega) ?_
  refine gX_virt (J := iX12_habit) (av := [gi (sx xs (i + 1)), gi (sx xs (i + 2))]) (a := 775) (st := [gi (aHabit S (sx xs (i + 1)) (sx xs (i + 2)))]) dL_law_297 lkL_38 kX12_habit vX12_habit (lwFit (d := 40) (by decide) (by decide)) hM.1 rfl rfl (Nat.le_of_ble_eq_true rfl) (Nat.zero_le _) (Nat.zero_le _) rfl ?_
  refine m_habit (d := 38) hM hT1 (fun V2 q2 => ?_)
  show gX l E _ 300 [some (ga 2000010), some (ga 0), some (ga 775), some (gi i)] [gi (aHabit S (sx xs (i + 1)) (sx xs (i + 2))), gi (aHabit S (sx xs (i + 1)) (sx xs (i + 2)))] (K, R, V2) _ _
  refine gX_icmpeq (tgt := 1192) dL_law_300 (by decide) (fun w1 => ?_) (fun w1 => ?_)
  · refine gX_iinc dL_law_1192 rfl (show (3 : Nat) < 4 from by decide) ⟨by omega, by omega⟩ (ls2 := [some (ga 2000010), some (ga 0), some (ga 775), some (gi (i + 5))]) rfl ?_
    refine gX_goto (tgt := 18) dL_law_1195 (by decide) ?_
    rw [show i + 5 = i + 5 from rfl]
    exact hk V2 S _ _ (hS1.ref (fun a ha => q2.1 a (by omega))) (hT1.look q2) hI
  · first
    | exact absurd rfl (by assumption)
    | exact absurd (gcmp_s _) (by assumption)
    | (exfalso; omega)
set_option maxRecDepth 8000 in
theorem lwC5 (hE : lwE E b) (hL : L ≤ 2560) (hG : gbK K R 3 12 15 16 19 25 32 37) (hM : mdK K R) (hS : gbIs V S) (hT : mdIs V S) (hI : siS S) (h0 : 0 ≤ i) (h1 : i + 5 ≤ L) (hk : ∀ (V' : Int → Int → Int) (S' : gbS) (bc bs : Nat), gbIs V' S' → mdIs V' S' → siS S' → gX l E (lwF b L xs (gB E)) 18 [some (ga 2000010), some (ga 0), some (ga 775), some (gi (i + 5))] [] (K, R, V') bc bs) : gX l E (lwF b L xs (gB E)) 305 [some (ga 2000010), some (ga 0), some (ga 775), some (gi (i))] [] (K, R, V) bc bs := by
  have z1 := sx_in xs (i + 1)
  have z2 := sx_in xs (i + 2)
  have z3 := sx_in xs (i + 3)
  have z4 := sx_in xs (i + 4)
  have za := hI.any hT (sx xs (i + 1))
  refine gX_aloadn dL_law_305 rfl ?_
  refine gX_aloadn dL_law_306 rfl ?_
  refine gX_iloadn dL_law_307 rfl ?_
  refine gX_iconst dL_law_308 ⟨by decide, by decide⟩ ?_
  refine gX_iadd dL_law_309 ⟨by omega, by omega⟩ ?_
  refine lwLd hE dL_law_310 hL (by omega) (by omega) ?_
  refine gX_aloadn dL_law_311 rfl ?_
  refine gX_iloadn dL_law_312 rfl ?_
  refine gX_iconst dL_law_313 ⟨by decide, by decide⟩ ?_
  refine gX_iadd dL_law_314 ⟨by omega, by omega⟩ ?_
  refine lwLd hE dL_law_315 hL (by omega) (by omega) ?_
  refine gX_virt (J := iX11_copy) (av := [gi (sx xs (i + 1)), gi (sx xs (i + 2))]) (a := 0) (st := []) dL_law_316 lkL_39 kX11_copy vX11_copy (lwFit (d := 40) (by decide) (by decide)) hG.2.1 rfl rfl (Nat.le_of_ble_eq_true rfl) (Nat.zero_le _) (Nat.zero_le _) rfl ?_
  refine c_copy (d := 33) hG hS (fun _ hh => ⟨za.2.2.2.1, by have := (hI.2.2.1 _ hh.1 hh.2).1.2.2.2.2.2.1; omega, fun z => ⟨(hI.2.2.1 _ hh.1 hh.2).1.2.2.2.2.2.2.2.1 z, (hI.2.2.1 _ hh.1 hh.2).1.2.2.2.2.2.2.1.2⟩, za.2.2.2.2⟩) (fun V1 hS1 hf1 => ?_)
  show gX l E _ 319 [some (ga 2000010), some (ga 0), some (ga 775), some (gi i)] [gi ((aCopy S (sx xs (i + 1)) (sx xs (i + 2))).1)] (K, R, V1) _ _
  have hT1 := hT.cls hf1
  refine gX_aloadn dL_law_319 rfl ?_
  refine gX_aloadn dL_law_320 rfl ?_
  refine gX_iloadn dL_law_321 rfl ?_
  refine gX_iconst dL_law_322 ⟨by decide, by decide⟩ ?_
  refine gX_iadd dL_law_323 ⟨by omega, by omega⟩ ?_
  refine lwLd hE dL_law_324 hL (by omega) (by omega) ?_
  refine gX_aloadn dL_law_325 rfl ?_
  refine gX_iloadn dL_law_326 rfl ?_
  refine gX_iconst dL_law_327 ⟨by decide, by decide⟩ ?_
  refine gX_iadd dL_law_328 ⟨by omega, by omega⟩ ?_
  refine lwLd hE dL_law_329 hL (by omega) (by omega) ?_
  refine gX_virt (J := iX12_copy) (av := [gi (sx xs (i + 1)), gi (sx xs (i + 2))]) (a := 775) (st := [gi ((aCopy S (sx xs (i + 1)) (sx xs (i + 2))).1)]) dL_law_330 lkL_42 kX12_copy vX12_copy (lwFit (d := 40) (by decide) (by decide)) hM.1 rfl rfl (Nat.le_of_ble_eq_true rfl) (Nat.zero_le _) (Nat.zero_le _) rfl ?_
  refine m_copy (d := 34) hM hT1 (fun z => hI.1 _ z.1 z.2) (fun z => hI.2.2.1 _ z.1 z.2) (fun V2 hT2 hf2 hb2 => ?_)
  show gX l E _ 333 [some (ga 2000010), some (ga 0), some (ga 775), some (gi i)] [gi ((aCopy S (sx xs (i + 1)) (sx xs (i + 2))).1), gi ((aCopy S (sx xs (i + 1)) (sx xs (i + 2))).1)] (K, R, V2) _ _
  refine gX_icmpeq (tgt := 1192) dL_law_333 (by decide) (fun w1 => ?_) (fun w1 => ?_)
  · refine gX_iinc dL_law_1192 rfl (show (3 : Nat) < 4 from by decide) ⟨by omega, by omega⟩ (ls2 := [some (ga 2000010), some (ga 0), some (ga 775), some (gi (i + 5))]) rfl ?_
    refine gX_goto (tgt := 18) dL_law_1195 (by decide) ?_
    exact hk V2 _ _ _ (hS1.ref (fun a ha => hf2 a (by omega))) hT2 (hI.copy hb2)
  · first
    | exact absurd rfl (by assumption)
    | exact absurd (gcmp_s _) (by assumption)
    | (exfalso; omega)
set_option maxRecDepth 8000 in
theorem lwC6 (hE : lwE E b) (hL : L ≤ 2560) (hG : gbK K R 3 12 15 16 19 25 32 37) (hM : mdK K R) (hS : gbIs V S) (hT : mdIs V S) (hI : siS S) (h0 : 0 ≤ i) (h1 : i + 5 ≤ L) (hk : ∀ (V' : Int → Int → Int) (S' : gbS) (bc bs : Nat), gbIs V' S' → mdIs V' S' → siS S' → gX l E (lwF b L xs (gB E)) 18 [some (ga 2000010), some (ga 0), some (ga 775), some (gi (i + 5))] [] (K, R, V') bc bs) : gX l E (lwF b L xs (gB E)) 338 [some (ga 2000010), some (ga 0), some (ga 775), some (gi (i))] [] (K, R, V) bc bs := by
  have z1 := sx_in xs (i + 1)
  have z2 := sx_in xs (i + 2)
  have z3 := sx_in xs (i + 3)
  have z4 := sx_in xs (i + 4)
  refine gX_aloadn dL_law_338 rfl ?_
  refine gX_aloadn dL_law_339 rfl ?_
  refine gX_iloadn dL_law_340 rfl ?_
  refine gX_iconst dL_law_341 ⟨by decide, by decide⟩ ?_
  refine gX_iadd dL_law_342 ⟨by omega, by omega⟩ ?_
  refine lwLd hE dL_law_343 hL (by omega) (by omega) ?_
  refine gX_aloadn dL_law_344 rfl ?_
  refine gX_iloadn dL_law_345 rfl ?_
  refine gX_iconst dL_law_346 ⟨by decide, by decide⟩ ?_
  refine gX_iadd dL_law_347 ⟨by omega, by omega⟩ ?_
  refine lwLd hE dL_law_348 hL (by omega) (by omega) ?_
  refine gX_aloadn dL_law_349 rfl ?_
  refine gX_iloadn dL_law_350 rfl ?_
  refine gX_iconst dL_law_351 ⟨by decide, by decide⟩ ?_
  refine gX_iadd dL_law_352 ⟨by omega, by omega⟩ ?_
  refine lwLd hE dL_law_353 hL (by omega) (by omega) ?_
  refine gX_ifeq (tgt := 361) dL_law_354 (by decide) (fun w1 => ?_) (fun w1 => ?_)
  · refine gX_iconst dL_law_361 ⟨by decide, by decide⟩ ?_
    refine gX_virt (J := iX11_taken) (av := [gi (sx xs (i + 1)), gi (sx xs (i + 2)), gi 0]) (a := 0) (st := []) dL_law_362 lkL_43 kX11_taken vX11_taken (lwFit (d := 40) (by decide) (by decide)) hG.2.1 rfl rfl (Nat.le_of_ble_eq_true rfl) (Nat.zero_le _) (Nat.zero_le _) rfl ?_
    refine c_taken (d := 38) hG hS (fun V1 hS1 hf1 => ?_)
    show gX l E _ 365 [some (ga 2000010), some (ga 0), some (ga 775), some (gi i)] [gi (aTaken S (sx xs (i + 1)) (sx xs (i + 2)) 0)] (K, R, V1) _ _
    have hT1 := hT.cls hf1
    refine gX_aloadn dL_law_365 rfl ?_
    refine gX_aloadn dL_law_366 rfl ?_
    refine gX_iloadn dL_law_367 rfl ?_
    refine gX_iconst dL_law_368 ⟨by decide, by decide⟩ ?_
    refine gX_iadd dL_law_369 ⟨by omega, by omega⟩ ?_
    refine lwLd hE dL_law_370 hL (by omega) (by omega) ?_
    refine gX_aloadn dL_law_371 rfl ?_
    refine gX_iloadn dL_law_372 rfl ?_
    refine gX_iconst dL_law_373 ⟨by decide, by decide⟩ ?_
    refine gX_iadd dL_law_374 ⟨by omega, by omega⟩ ?_
    refine lwLd hE dL_law_375 hL (by omega) (by omega) ?_
    refine gX_aloadn dL_law_376 rfl ?_
    refine gX_iloadn dL_law_377 rfl ?_
    refine gX_iconst dL_law_378 ⟨by decide, by decide⟩ ?_
    refine gX_iadd dL_law_379 ⟨by omega, by omega⟩ ?_
    refine lwLd hE dL_law_380 hL (by omega) (by omega) ?_
    refine gX_ifeq (tgt := 388) dL_law_381 (by decide) (fun w2 => ?_) (fun w2 => ?_)
    · refine gX_iconst dL_law_388 ⟨by decide, by decide⟩ ?_
      refine gX_virt (J := iX12_taken) (av := [gi (sx xs (i + 1)), gi (sx xs (i + 2)), gi 0]) (a := 775) (st := [gi (aTaken S (sx xs (i + 1)) (sx xs (i + 2)) 0)]) dL_law_389 lkL_47 kX12_taken vX12_taken (lwFit (d := 40) (by decide) (by decide)) hM.1 rfl rfl (Nat.le_of_ble_eq_true rfl) (Nat.zero_le _) (Nat.zero_le _) rfl ?_
      refine m_taken (d := 37) hM hT1 (fun z => hI.2.1 _ z.1 z.2) (fun V2 q2 => ?_)
      show gX l E _ 392 [some (ga 2000010), some (ga 0), some (ga 775), some (gi i)] [gi (aTaken S (sx xs (i + 1)) (sx xs (i + 2)) 0), gi (aTaken S (sx xs (i + 1)) (sx xs (i + 2)) 0)] (K, R, V2) _ _
      refine gX_icmpeq (tgt := 1192) dL_law_392 (by decide) (fun w3 => ?_) (fun w3 => ?_)
      · refine gX_iinc dL_law_1192 rfl (show (3 : Nat) < 4 from by decide) ⟨by omega, by omega⟩ (ls2 := [some (ga 2000010), some (ga 0), some (ga 775), some (gi (i + 5))]) rfl ?_
        refine gX_goto (tgt := 18) dL_law_1195 (by decide) ?_
        rw [show i + 5 = i + 5 from rfl]
        exact hk V2 S _ _ (hS1.ref (fun a ha => q2.1 a (by omega))) (hT1.look q2) hI
      · first
        | exact absurd rfl (by assumption)
        | exact absurd (gcmp_s _) (by assumption)
        | (exfalso; omega)
    · refine gX_iconst dL_law_384 ⟨by decide, by decide⟩ ?_
      refine gX_goto (tgt := 389) dL_law_385 (by decide) ?_
      refine gX_virt (J := iX12_taken) (av := [gi (sx xs (i + 1)), gi (sx xs (i + 2)), gi 1]) (a := 775) (st := [gi (aTaken S (sx xs (i + 1)) (sx xs (i + 2)) 0)]) dL_law_389 lkL_47 kX12_taken vX12_taken (lwFit (d := 40) (by decide) (by decide)) hM.1 rfl rfl (Nat.le_of_ble_eq_true rfl) (Nat.zero_le _) (Nat.zero_le _) rfl ?_
      refine m_taken (d := 37) hM hT1 (fun z => hI.2.1 _ z.1 z.2) (fun V2 q2 => ?_)
      show gX l E _ 392 [some (ga 2000010), some (ga 0), some (ga 775), some (gi i)] [gi (aTaken S (sx xs (i + 1)) (sx xs (i + 2)) 1), gi (aTaken S (sx xs (i + 1)) (sx xs (i + 2)) 0)] (K, R, V2) _ _
      refine gX_icmpeq (tgt := 1192) dL_law_392 (by decide) (fun w4 => ?_) (fun w4 => ?_)
      · refine gX_iinc dL_law_1192 rfl (show (3 : Nat) < 4 from by decide) ⟨by omega, by omega⟩ (ls2 := [some (ga 2000010), some (ga 0), some (ga 775), some (gi (i + 5))]) rfl ?_
        refine gX_goto (tgt := 18) dL_law_1195 (by decide) ?_
        rw [show i + 5 = i + 5 from rfl]
        exact hk V2 S _ _ (hS1.ref (fun a ha => q2.1 a (by omega))) (hT1.look q2) hI
      · first
        | exact absurd rfl (by assumption)
        | exact absurd (gcmp_s _) (by assumption)
        | (exfalso; omega)
  · refine gX_iconst dL_law_357 ⟨by decide, by decide⟩ ?_
    refine gX_goto (tgt := 362) dL_law_358 (by decide) ?_
    refine gX_virt (J := iX11_taken) (av := [gi (sx xs (i + 1)), gi (sx xs (i + 2)), gi 1]) (a := 0) (st := []) dL_law_362 lkL_43 kX11_taken vX11_taken (lwFit (d := 40) (by decide) (by decide)) hG.2.1 rfl rfl (Nat.le_of_ble_eq_true rfl) (Nat.zero_le _) (Nat.zero_le _) rfl ?_
    refine c_taken (d := 38) hG hS (fun V1 hS1 hf1 => ?_)
    show gX l E _ 365 [some (ga 2000010), some (ga 0), some (ga 775), some (gi i)] [gi (aTaken S (sx xs (i + 1)) (sx xs (i + 2)) 1)] (K, R, V1) _ _
    have hT1 := hT.cls hf1
    refine gX_aloadn dL_law_365 rfl ?_
    refine gX_aloadn dL_law_366 rfl ?_
    refine gX_iloadn dL_law_367 rfl ?_
    refine gX_iconst dL_law_368 ⟨by decide, by decide⟩ ?_
    refine gX_iadd dL_law_369 ⟨by omega, by omega⟩ ?_
    refine lwLd hE dL_law_370 hL (by omega) (by omega) ?_
    refine gX_aloadn dL_law_371 rfl ?_
    refine gX_iloadn dL_law_372 rfl ?_
    refine gX_iconst dL_law_373 ⟨by decide, by decide⟩ ?_
    refine gX_iadd dL_law_374 ⟨by omega, by omega⟩ ?_
    refine lwLd hE dL_law_375 hL (by omega) (by omega) ?_
    refine gX_aloadn dL_law_376 rfl ?_
    refine gX_iloadn dL_law_377 rfl ?_
    refine gX_iconst dL_law_378 ⟨by decide, by decide⟩ ?_
    refine gX_iadd dL_law_379 ⟨by omega, by omega⟩ ?_
    refine lwLd hE dL_law_380 hL (by omega) (by omega) ?_
    refine gX_ifeq (tgt := 388) dL_law_381 (by decide) (fun w5 => ?_) (fun w5 => ?_)
    · refine gX_iconst dL_law_388 ⟨by decide, by decide⟩ ?_
      refine gX_virt (J := iX12_taken) (av := [gi (sx xs (i + 1)), gi (sx xs (i + 2)), gi 0]) (a := 775) (st := [gi (aTaken S (sx xs (i + 1)) (sx xs (i + 2)) 1)]) dL_law_389 lkL_47 kX12_taken vX12_taken (lwFit (d := 40) (by decide) (by decide)) hM.1 rfl rfl (Nat.le_of_ble_eq_true rfl) (Nat.zero_le _) (Nat.zero_le _) rfl ?_
      refine m_taken (d := 37) hM hT1 (fun z => hI.2.1 _ z.1 z.2) (fun V2 q2 => ?_)
      show gX l E _ 392 [some (ga 2000010), some (ga 0), some (ga 775), some (gi i)] [gi (aTaken S (sx xs (i + 1)) (sx xs (i + 2)) 0), gi (aTaken S (sx xs (i + 1)) (sx xs (i + 2)) 1)] (K, R, V2) _ _
      refine gX_icmpeq (tgt := 1192) dL_law_392 (by decide) (fun w6 => ?_) (fun w6 => ?_)
      · refine gX_iinc dL_law_1192 rfl (show (3 : Nat) < 4 from by decide) ⟨by omega, by omega⟩ (ls2 := [some (ga 2000010), some (ga 0), some (ga 775), some (gi (i + 5))]) rfl ?_
        refine gX_goto (tgt := 18) dL_law_1195 (by decide) ?_
        rw [show i + 5 = i + 5 from rfl]
        exact hk V2 S _ _ (hS1.ref (fun a ha => q2.1 a (by omega))) (hT1.look q2) hI
      · first
        | exact absurd rfl (by assumption)
        | exact absurd (gcmp_s _) (by assumption)
        | (exfalso; omega)
    · refine gX_iconst dL_law_384 ⟨by decide, by decide⟩ ?_
      refine gX_goto (tgt := 389) dL_law_385 (by decide) ?_
      refine gX_virt (J := iX12_taken) (av := [gi (sx xs (i + 1)), gi (sx xs (i + 2)), gi 1]) (a := 775) (st := [gi (aTaken S (sx xs (i + 1)) (sx xs (i + 2)) 1)]) dL_law_389 lkL_47 kX12_taken vX12_taken (lwFit (d := 40) (by decide) (by decide)) hM.1 rfl rfl (Nat.le_of_ble_eq_true rfl) (Nat.zero_le _) (Nat.zero_le _) rfl ?_
      refine m_taken (d := 37) hM hT1 (fun z => hI.2.1 _ z.1 z.2) (fun V2 q2 => ?_)
      show gX l E _ 392 [some (ga 2000010), some (ga 0), some (ga 775), some (gi i)] [gi (aTaken S (sx xs (i + 1)) (sx xs (i + 2)) 1), gi (aTaken S (sx xs (i + 1)) (sx xs (i + 2)) 1)] (K, R, V2) _ _
      refine gX_icmpeq (tgt := 1192) dL_law_392 (by decide) (fun w7 => ?_) (fun w7 => ?_)
      · refine gX_iinc dL_law_1192 rfl (show (3 : Nat) < 4 from by decide) ⟨by omega, by omega⟩ (ls2 := [some (ga 2000010), some (ga 0), some (ga 775), some (gi (i + 5))]) rfl ?_
        refine gX_goto (tgt := 18) dL_law_1195 (by decide) ?_
        rw [show i + 5 = i + 5 from rfl]
        exact hk V2 S _ _ (hS1.ref (fun a ha => q2.1 a (by omega))) (hT1.look q2) hI
      · first
        | exact absurd rfl (by assumption)
        | exact absurd (gcmp_s _) (by assumption)
        | (exfalso; omega)
set_option maxRecDepth 8000 in
theorem lwC7 (hE : lwE E b) (hL : L ≤ 2560) (hG : gbK K R 3 12 15 16 19 25 32 37) (hM : mdK K R) (hS : gbIs V S) (hT : mdIs V S) (hI : siS S) (h0 : 0 ≤ i) (h1 : i + 5 ≤ L) (hk : ∀ (V' : Int → Int → Int) (S' : gbS) (bc bs : Nat), gbIs V' S' → mdIs V' S' → siS S' → gX l E (lwF b L xs (gB E)) 18 [some (ga 2000010), some (ga 0), some (ga 775), some (gi (i + 5))] [] (K, R, V') bc bs) : gX l E (lwF b L xs (gB E)) 397 [some (ga 2000010), some (ga 0), some (ga 775), some (gi (i))] [] (K, R, V) bc bs := by
  have z1 := sx_in xs (i + 1)
  have z2 := sx_in xs (i + 2)
  have z3 := sx_in xs (i + 3)
  have z4 := sx_in xs (i + 4)
  refine gX_aloadn dL_law_397 rfl ?_
  refine gX_aloadn dL_law_398 rfl ?_
  refine gX_iloadn dL_law_399 rfl ?_
  refine gX_iconst dL_law_400 ⟨by decide, by decide⟩ ?_
  refine gX_iadd dL_law_401 ⟨by omega, by omega⟩ ?_
  refine lwLd hE dL_law_402 hL (by omega) (by omega) ?_
  refine gX_aloadn dL_law_403 rfl ?_
  refine gX_iloadn dL_law_404 rfl ?_
  refine gX_iconst dL_law_405 ⟨by decide, by decide⟩ ?_
  refine gX_iadd dL_law_406 ⟨by omega, by omega⟩ ?_
  refine lwLd hE dL_law_407 hL (by omega) (by omega) ?_
  refine gX_aloadn dL_law_408 rfl ?_
  refine gX_iloadn dL_law_409 rfl ?_
  refine gX_iconst dL_law_410 ⟨by decide, by decide⟩ ?_
  refine gX_iadd dL_law_411 ⟨by omega, by omega⟩ ?_
  refine lwLd hE dL_law_412 hL (by omega) (by omega) ?_
  refine gX_virt (J := iX11_amend) (av := [gi (sx xs (i + 1)), gi (sx xs (i + 2)), gi (sx xs (i + 3))]) (a := 0) (st := []) dL_law_413 lkL_48 kX11_amend vX11_amend (lwFit (d := 40) (by decide) (by decide)) hG.2.1 rfl rfl (Nat.le_of_ble_eq_true rfl) (Nat.zero_le _) (Nat.zero_le _) rfl ?_
  refine c_amend (d := 38) hG hS (fun V1 hS1 hf1 => ?_)
  show gX l E _ 416 [some (ga 2000010), some (ga 0), some (ga 775), some (gi i)] [gi ((aAmend S (sx xs (i + 1)) (sx xs (i + 2)) (sx xs (i + 3))).1)] (K, R, V1) _ _
  have hT1 := hT.cls hf1
  refine gX_aloadn dL_law_416 rfl ?_
  refine gX_aloadn dL_law_417 rfl ?_
  refine gX_iloadn dL_law_418 rfl ?_
  refine gX_iconst dL_law_419 ⟨by decide, by decide⟩ ?_
  refine gX_iadd dL_law_420 ⟨by omega, by omega⟩ ?_
  refine lwLd hE dL_law_421 hL (by omega) (by omega) ?_
  refine gX_aloadn dL_law_422 rfl ?_
  refine gX_iloadn dL_law_423 rfl ?_
  refine gX_iconst dL_law_424 ⟨by decide, by decide⟩ ?_
  refine gX_iadd dL_law_425 ⟨by omega, by omega⟩ ?_
  refine lwLd hE dL_law_426 hL (by omega) (by omega) ?_
  refine gX_aloadn dL_law_427 rfl ?_
  refine gX_iloadn dL_law_428 rfl ?_
  refine gX_iconst dL_law_429 ⟨by decide, by decide⟩ ?_
  refine gX_iadd dL_law_430 ⟨by omega, by omega⟩ ?_
  refine lwLd hE dL_law_431 hL (by omega) (by omega) ?_
  refine gX_virt (J := iX12_amend) (av := [gi (sx xs (i + 1)), gi (sx xs (i + 2)), gi (sx xs (i + 3))]) (a := 775) (st := [gi ((aAmend S (sx xs (i + 1)) (sx xs (i + 2)) (sx xs (i + 3))).1)]) dL_law_432 lkL_52 kX12_amend vX12_amend (lwFit (d := 40) (by decide) (by decide)) hM.1 rfl rfl (Nat.le_of_ble_eq_true rfl) (Nat.zero_le _) (Nat.zero_le _) rfl ?_
  refine m_amend (d := 37) hM hT1 (fun V2 hT2 hf2  => ?_)
  show gX l E _ 435 [some (ga 2000010), some (ga 0), some (ga 775), some (gi i)] [gi ((aAmend S (sx xs (i + 1)) (sx xs (i + 2)) (sx xs (i + 3))).1), gi ((aAmend S (sx xs (i + 1)) (sx xs (i + 2)) (sx xs (i + 3))).1)] (K, R, V2) _ _
  refine gX_icmpeq (tgt := 1192) dL_law_435 (by decide) (fun w1 => ?_) (fun w1 => ?_)
  · refine gX_iinc dL_law_1192 rfl (show (3 : Nat) < 4 from by decide) ⟨by omega, by omega⟩ (ls2 := [some (ga 2000010), some (ga 0), some (ga 775), some (gi (i + 5))]) rfl ?_
    refine gX_goto (tgt := 18) dL_law_1195 (by decide) ?_
    exact hk V2 _ _ _ (hS1.ref (fun a ha => hf2 a (by omega))) hT2 (hI.amend)
  · first
    | exact absurd rfl (by assumption)
    | exact absurd (gcmp_s _) (by assumption)
    | (exfalso; omega)
set_option maxRecDepth 8000 in
theorem lwC8 (hE : lwE E b) (hL : L ≤ 2560) (hG : gbK K R 3 12 15 16 19 25 32 37) (hM : mdK K R) (hS : gbIs V S) (hT : mdIs V S) (hI : siS S) (h0 : 0 ≤ i) (h1 : i + 5 ≤ L) (hk : ∀ (V' : Int → Int → Int) (S' : gbS) (bc bs : Nat), gbIs V' S' → mdIs V' S' → siS S' → gX l E (lwF b L xs (gB E)) 18 [some (ga 2000010), some (ga 0), some (ga 775), some (gi (i + 5))] [] (K, R, V') bc bs) : gX l E (lwF b L xs (gB E)) 440 [some (ga 2000010), some (ga 0), some (ga 775), some (gi (i))] [] (K, R, V) bc bs := by
  have z1 := sx_in xs (i + 1)
  have z2 := sx_in xs (i + 2)
  have z3 := sx_in xs (i + 3)
  have z4 := sx_in xs (i + 4)
  refine gX_aloadn dL_law_440 rfl ?_
  refine gX_aloadn dL_law_441 rfl ?_
  refine gX_iloadn dL_law_442 rfl ?_
  refine gX_iconst dL_law_443 ⟨by decide, by decide⟩ ?_
  refine gX_iadd dL_law_444 ⟨by omega, by omega⟩ ?_
  refine lwLd hE dL_law_445 hL (by omega) (by omega) ?_
  refine gX_aloadn dL_law_446 rfl ?_
  refine gX_iloadn dL_law_447 rfl ?_
  refine gX_iconst dL_law_448 ⟨by decide, by decide⟩ ?_
  refine gX_iadd dL_law_449 ⟨by omega, by omega⟩ ?_
  refine lwLd hE dL_law_450 hL (by omega) (by omega) ?_
  refine gX_virt (J := iX11_lift) (av := [gi (sx xs (i + 1)), gi (sx xs (i + 2))]) (a := 0) (st := []) dL_law_451 lkL_53 kX11_lift vX11_lift (lwFit (d := 40) (by decide) (by decide)) hG.2.1 rfl rfl (Nat.le_of_ble_eq_true rfl) (Nat.zero_le _) (Nat.zero_le _) rfl ?_
  refine c_lift (d := 36) hG hS (fun z => (hI.1 _ z.1 z.2).1.2.2.1) (fun V1 hS1 hf1 => ?_)
  show gX l E _ 454 [some (ga 2000010), some (ga 0), some (ga 775), some (gi i)] [gi ((aLift S (sx xs (i + 1)) (sx xs (i + 2))).1)] (K, R, V1) _ _
  have hT1 := hT.cls hf1
  refine gX_aloadn dL_law_454 rfl ?_
  refine gX_aloadn dL_law_455 rfl ?_
  refine gX_iloadn dL_law_456 rfl ?_
  refine gX_iconst dL_law_457 ⟨by decide, by decide⟩ ?_
  refine gX_iadd dL_law_458 ⟨by omega, by omega⟩ ?_
  refine lwLd hE dL_law_459 hL (by omega) (by omega) ?_
  refine gX_aloadn dL_law_460 rfl ?_
  refine gX_iloadn dL_law_461 rfl ?_
  refine gX_iconst dL_law_462 ⟨by decide, by decide⟩ ?_
  refine gX_iadd dL_law_463 ⟨by omega, by omega⟩ ?_
  refine lwLd hE dL_law_464 hL (by omega) (by omega) ?_
  refine gX_virt (J := iX12_lift) (av := [gi (sx xs (i + 1)), gi (sx xs (i + 2))]) (a := 775) (st := [gi ((aLift S (sx xs (i + 1)) (sx xs (i + 2))).1)]) dL_law_465 lkL_56 kX12_lift vX12_lift (lwFit (d := 40) (by decide) (by decide)) hM.1 rfl rfl (Nat.le_of_ble_eq_true rfl) (Nat.zero_le _) (Nat.zero_le _) rfl ?_
  refine m_lift (d := 34) hM hT1 (fun z => hI.1 _ z.1 z.2) (fun V2 hT2 hf2 hb2 => ?_)
  show gX l E _ 468 [some (ga 2000010), some (ga 0), some (ga 775), some (gi i)] [gi ((aLift S (sx xs (i + 1)) (sx xs (i + 2))).1), gi ((aLift S (sx xs (i + 1)) (sx xs (i + 2))).1)] (K, R, V2) _ _
  refine gX_icmpeq (tgt := 1192) dL_law_468 (by decide) (fun w1 => ?_) (fun w1 => ?_)
  · refine gX_iinc dL_law_1192 rfl (show (3 : Nat) < 4 from by decide) ⟨by omega, by omega⟩ (ls2 := [some (ga 2000010), some (ga 0), some (ga 775), some (gi (i + 5))]) rfl ?_
    refine gX_goto (tgt := 18) dL_law_1195 (by decide) ?_
    exact hk V2 _ _ _ (hS1.ref (fun a ha => hf2 a (by omega))) hT2 (hI.lift hb2)
  · first
    | exact absurd rfl (by assumption)
    | exact absurd (gcmp_s _) (by assumption)
    | (exfalso; omega)
set_option maxRecDepth 8000 in
theorem lwC9 (hE : lwE E b) (hL : L ≤ 2560) (hG : gbK K R 3 12 15 16 19 25 32 37) (hM : mdK K R) (hS : gbIs V S) (hT : mdIs V S) (hI : siS S) (h0 : 0 ≤ i) (h1 : i + 5 ≤ L) (hk : ∀ (V' : Int → Int → Int) (S' : gbS) (bc bs : Nat), gbIs V' S' → mdIs V' S' → siS S' → gX l E (lwF b L xs (gB E)) 18 [some (ga 2000010), some (ga 0), some (ga 775), some (gi (i + 5))] [] (K, R, V') bc bs) : gX l E (lwF b L xs (gB E)) 473 [some (ga 2000010), some (ga 0), some (ga 775), some (gi (i))] [] (K, R, V) bc bs := by
  have z1 := sx_in xs (i + 1)
  have z2 := sx_in xs (i + 2)
  have z3 := sx_in xs (i + 3)
  have z4 := sx_in xs (i + 4)
  have za := hI.any hT (sx xs (i + 1))
  refine gX_aloadn dL_law_473 rfl ?_
  refine gX_aloadn dL_law_474 rfl ?_
  refine gX_iloadn dL_law_475 rfl ?_
  refine gX_iconst dL_law_476 ⟨by decide, by decide⟩ ?_
  refine gX_iadd dL_law_477 ⟨by omega, by omega⟩ ?_
  refine lwLd hE dL_law_478 hL (by omega) (by omega) ?_
  refine gX_aloadn dL_law_479 rfl ?_
  refine gX_iloadn dL_law_480 rfl ?_
  refine gX_iconst dL_law_481 ⟨by decide, by decide⟩ ?_
  refine gX_iadd dL_law_482 ⟨by omega, by omega⟩ ?_
  refine lwLd hE dL_law_483 hL (by omega) (by omega) ?_
  refine gX_virt (J := iX11_print) (av := [gi (sx xs (i + 1)), gi (sx xs (i + 2))]) (a := 0) (st := []) dL_law_484 lkL_57 kX11_print vX11_print (lwFit (d := 40) (by decide) (by decide)) hG.2.1 rfl rfl (Nat.le_of_ble_eq_true rfl) (Nat.zero_le _) (Nat.zero_le _) rfl ?_
  refine c_print (d := 25) hG hS za.2.1 za.1.1.2.1 za.1.1.2.2.2.1 (fun V1 hS1 hf1 => ?_)
  show gX l E _ 487 [some (ga 2000010), some (ga 0), some (ga 775), some (gi i)] [gi (aPrint S (sx xs (i + 1)) (sx xs (i + 2)))] (K, R, V1) _ _
  have hT1 := hT.cls hf1
  refine gX_aloadn dL_law_487 rfl ?_
  refine gX_aloadn dL_law_488 rfl ?_
  refine gX_iloadn dL_law_489 rfl ?_
  refine gX_iconst dL_law_490 ⟨by decide, by decide⟩ ?_
  refine gX_iadd dL_law_491 ⟨by omega, by omega⟩ ?_
  refine lwLd hE dL_law_492 hL (by omega) (by omega) ?_
  refine gX_aloadn dL_law_493 rfl ?_
  refine gX_iloadn dL_law_494 rfl ?_
  refine gX_iconst dL_law_495 ⟨by decide, by decide⟩ ?_
  refine gX_iadd dL_law_496 ⟨by omega, by omega⟩ ?_
  refine lwLd hE dL_law_497 hL (by omega) (by omega) ?_
  refine gX_virt (J := iX12_print) (av := [gi (sx xs (i + 1)), gi (sx xs (i + 2))]) (a := 775) (st := [gi (aPrint S (sx xs (i + 1)) (sx xs (i + 2)))]) dL_law_498 lkL_60 kX12_print vX12_print (lwFit (d := 40) (by decide) (by decide)) hM.1 rfl rfl (Nat.le_of_ble_eq_true rfl) (Nat.zero_le _) (Nat.zero_le _) rfl ?_
  refine m_print (d := 35) hM hT1 (fun z => hI.1 _ z.1 z.2) (fun V2 q2 => ?_)
  show gX l E _ 501 [some (ga 2000010), some (ga 0), some (ga 775), some (gi i)] [gi (aPrint S (sx xs (i + 1)) (sx xs (i + 2))), gi (aPrint S (sx xs (i + 1)) (sx xs (i + 2)))] (K, R, V2) _ _
  refine gX_icmpeq (tgt := 1192) dL_law_501 (by decide) (fun w1 => ?_) (fun w1 => ?_)
  · refine gX_iinc dL_law_1192 rfl (show (3 : Nat) < 4 from by decide) ⟨by omega, by omega⟩ (ls2 := [some (ga 2000010), some (ga 0), some (ga 775), some (gi (i + 5))]) rfl ?_
    refine gX_goto (tgt := 18) dL_law_1195 (by decide) ?_
    rw [show i + 5 = i + 5 from rfl]
    exact hk V2 S _ _ (hS1.ref (fun a ha => q2.1 a (by omega))) (hT1.look q2) hI
  · first
    | exact absurd rfl (by assumption)
    | exact absurd (gcmp_s _) (by assumption)
    | (exfalso; omega)
set_option maxRecDepth 8000 in
theorem lwC10 (hE : lwE E b) (hL : L ≤ 2560) (hG : gbK K R 3 12 15 16 19 25 32 37) (hM : mdK K R) (hS : gbIs V S) (hT : mdIs V S) (hI : siS S) (h0 : 0 ≤ i) (h1 : i + 5 ≤ L) (hk : ∀ (V' : Int → Int → Int) (S' : gbS) (bc bs : Nat), gbIs V' S' → mdIs V' S' → siS S' → gX l E (lwF b L xs (gB E)) 18 [some (ga 2000010), some (ga 0), some (ga 775), some (gi (i + 5))] [] (K, R, V') bc bs) : gX l E (lwF b L xs (gB E)) 506 [some (ga 2000010), some (ga 0), some (ga 775), some (gi (i))] [] (K, R, V) bc bs := by
  have z1 := sx_in xs (i + 1)
  have z2 := sx_in xs (i + 2)
  have z3 := sx_in xs (i + 3)
  have z4 := sx_in xs (i + 4)
  refine gX_aloadn dL_law_506 rfl ?_
  refine gX_aloadn dL_law_507 rfl ?_
  refine gX_iloadn dL_law_508 rfl ?_
  refine gX_iconst dL_law_509 ⟨by decide, by decide⟩ ?_
  refine gX_iadd dL_law_510 ⟨by omega, by omega⟩ ?_
  refine lwLd hE dL_law_511 hL (by omega) (by omega) ?_
  refine gX_aloadn dL_law_512 rfl ?_
  refine gX_iloadn dL_law_513 rfl ?_
  refine gX_iconst dL_law_514 ⟨by decide, by decide⟩ ?_
  refine gX_iadd dL_law_515 ⟨by omega, by omega⟩ ?_
  refine lwLd hE dL_law_516 hL (by omega) (by omega) ?_
  refine gX_virt (J := iX11_word) (av := [gi (sx xs (i + 1)), gi (sx xs (i + 2))]) (a := 0) (st := []) dL_law_517 lkL_61 kX11_word vX11_word (lwFit (d := 40) (by decide) (by decide)) hG.2.1 rfl rfl (Nat.le_of_ble_eq_true rfl) (Nat.zero_le _) (Nat.zero_le _) rfl ?_
  refine c_word (d := 38) hG hS (fun V1 hS1 hf1 => ?_)
  show gX l E _ 520 [some (ga 2000010), some (ga 0), some (ga 775), some (gi i)] [gi (aWord S (sx xs (i + 1)) (sx xs (i + 2)))] (K, R, V1) _ _
  have hT1 := hT.cls hf1
  refine gX_aloadn dL_law_520 rfl ?_
  refine gX_aloadn dL_law_521 rfl ?_
  refine gX_iloadn dL_law_522 rfl ?_
  refine gX_iconst dL_law_523 ⟨by decide, by decide⟩ ?_
  refine gX_iadd dL_law_524 ⟨by omega, by omega⟩ ?_
  refine lwLd hE dL_law_525 hL (by omega) (by omega) ?_
  refine gX_aloadn dL_law_526 rfl ?_
  refine gX_iloadn dL_law_527 rfl ?_
  refine gX_iconst dL_law_528 ⟨by decide, by decide⟩ ?_
  refine gX_iadd dL_law_529 ⟨by omega, by omega⟩ ?_
  refine lwLd hE dL_law_530 hL (by omega) (by omega) ?_
  refine gX_virt (J := iX12_word) (av := [gi (sx xs (i + 1)), gi (sx xs (i + 2))]) (a := 775) (st := [gi (aWord S (sx xs (i + 1)) (sx xs (i + 2)))]) dL_law_531 lkL_64 kX12_word vX12_word (lwFit (d := 40) (by decide) (by decide)) hM.1 rfl rfl (Nat.le_of_ble_eq_true rfl) (Nat.zero_le _) (Nat.zero_le _) rfl ?_
  refine m_word (d := 37) hM hT1 (fun V2 q2 => ?_)
  show gX l E _ 534 [some (ga 2000010), some (ga 0), some (ga 775), some (gi i)] [gi (aWord S (sx xs (i + 1)) (sx xs (i + 2))), gi (aWord S (sx xs (i + 1)) (sx xs (i + 2)))] (K, R, V2) _ _
  refine gX_icmpeq (tgt := 1192) dL_law_534 (by decide) (fun w1 => ?_) (fun w1 => ?_)
  · refine gX_iinc dL_law_1192 rfl (show (3 : Nat) < 4 from by decide) ⟨by omega, by omega⟩ (ls2 := [some (ga 2000010), some (ga 0), some (ga 775), some (gi (i + 5))]) rfl ?_
    refine gX_goto (tgt := 18) dL_law_1195 (by decide) ?_
    rw [show i + 5 = i + 5 from rfl]
    exact hk V2 S _ _ (hS1.ref (fun a ha => q2.1 a (by omega))) (hT1.look q2) hI
  · first
    | exact absurd rfl (by assumption)
    | exact absurd (gcmp_s _) (by assumption)
    | (exfalso; omega)
set_option maxRecDepth 8000 in
theorem lwC11 (hE : lwE E b) (hL : L ≤ 2560) (hG : gbK K R 3 12 15 16 19 25 32 37) (hM : mdK K R) (hS : gbIs V S) (hT : mdIs V S) (hI : siS S) (h0 : 0 ≤ i) (h1 : i + 5 ≤ L) (hk : ∀ (V' : Int → Int → Int) (S' : gbS) (bc bs : Nat), gbIs V' S' → mdIs V' S' → siS S' → gX l E (lwF b L xs (gB E)) 18 [some (ga 2000010), some (ga 0), some (ga 775), some (gi (i + 5))] [] (K, R, V') bc bs) : gX l E (lwF b L xs (gB E)) 539 [some (ga 2000010), some (ga 0), some (ga 775), some (gi (i))] [] (K, R, V) bc bs := by
  have z1 := sx_in xs (i + 1)
  have z2 := sx_in xs (i + 2)
  have z3 := sx_in xs (i + 3)
  have z4 := sx_in xs (i + 4)
  refine gX_aloadn dL_law_539 rfl ?_
  refine gX_aloadn dL_law_540 rfl ?_
  refine gX_iloadn dL_law_541 rfl ?_
  refine gX_iconst dL_law_542 ⟨by decide, by decide⟩ ?_
  refine gX_iadd dL_law_543 ⟨by omega, by omega⟩ ?_
  refine lwLd hE dL_law_544 hL (by omega) (by omega) ?_
  refine gX_aloadn dL_law_545 rfl ?_
  refine gX_iloadn dL_law_546 rfl ?_
  refine gX_iconst dL_law_547 ⟨by decide, by decide⟩ ?_
  refine gX_iadd dL_law_548 ⟨by omega, by omega⟩ ?_
  refine lwLd hE dL_law_549 hL (by omega) (by omega) ?_
  refine gX_virt (J := iX11_about) (av := [gi (sx xs (i + 1)), gi (sx xs (i + 2))]) (a := 0) (st := []) dL_law_550 lkL_65 kX11_about vX11_about (lwFit (d := 40) (by decide) (by decide)) hG.2.1 rfl rfl (Nat.le_of_ble_eq_true rfl) (Nat.zero_le _) (Nat.zero_le _) rfl ?_
  refine c_about (d := 36) hG hS (fun V1 hS1 hf1 => ?_)
  show gX l E _ 553 [some (ga 2000010), some (ga 0), some (ga 775), some (gi i)] [gi (aAbout S (sx xs (i + 1)) (sx xs (i + 2)))] (K, R, V1) _ _
  have hT1 := hT.cls hf1
  refine gX_aloadn dL_law_553 rfl ?_
  refine gX_aloadn dL_law_554 rfl ?_
  refine gX_iloadn dL_law_555 rfl ?_
  refine gX_iconst dL_law_556 ⟨by decide, by decide⟩ ?_
  refine gX_iadd dL_law_557 ⟨by omega, by omega⟩ ?_
  refine lwLd hE dL_law_558 hL (by omega) (by omega) ?_
  refine gX_aloadn dL_law_559 rfl ?_
  refine gX_iloadn dL_law_560 rfl ?_
  refine gX_iconst dL_law_561 ⟨by decide, by decide⟩ ?_
  refine gX_iadd dL_law_562 ⟨by omega, by omega⟩ ?_
  refine lwLd hE dL_law_563 hL (by omega) (by omega) ?_
  refine gX_virt (J := iX12_about) (av := [gi (sx xs (i + 1)), gi (sx xs (i + 2))]) (a := 775) (st := [gi (aAbout S (sx xs (i + 1)) (sx xs (i + 2)))]) dL_law_564 lkL_68 kX12_about vX12_about (lwFit (d := 40) (by decide) (by decide)) hM.1 rfl rfl (Nat.le_of_ble_eq_true rfl) (Nat.zero_le _) (Nat.zero_le _) rfl ?_
  refine m_about (d := 37) hM hT1 (fun b b0 b1 => (hI.1 b b0 b1).1) (fun V2 q2 => ?_)
  show gX l E _ 567 [some (ga 2000010), some (ga 0), some (ga 775), some (gi i)] [gi (aAbout S (sx xs (i + 1)) (sx xs (i + 2))), gi (aAbout S (sx xs (i + 1)) (sx xs (i + 2)))] (K, R, V2) _ _
  refine gX_icmpeq (tgt := 1192) dL_law_567 (by decide) (fun w1 => ?_) (fun w1 => ?_)
  · refine gX_iinc dL_law_1192 rfl (show (3 : Nat) < 4 from by decide) ⟨by omega, by omega⟩ (ls2 := [some (ga 2000010), some (ga 0), some (ga 775), some (gi (i + 5))]) rfl ?_
    refine gX_goto (tgt := 18) dL_law_1195 (by decide) ?_
    rw [show i + 5 = i + 5 from rfl]
    exact hk V2 S _ _ (hS1.ref (fun a ha => q2.1 a (by omega))) (hT1.look q2) hI
  · first
    | exact absurd rfl (by assumption)
    | exact absurd (gcmp_s _) (by assumption)
    | (exfalso; omega)
set_option maxRecDepth 8000 in
theorem lwC12 (hE : lwE E b) (hL : L ≤ 2560) (hG : gbK K R 3 12 15 16 19 25 32 37) (hM : mdK K R) (hS : gbIs V S) (hT : mdIs V S) (hI : siS S) (h0 : 0 ≤ i) (h1 : i + 5 ≤ L) (hk : ∀ (V' : Int → Int → Int) (S' : gbS) (bc bs : Nat), gbIs V' S' → mdIs V' S' → siS S' → gX l E (lwF b L xs (gB E)) 18 [some (ga 2000010), some (ga 0), some (ga 775), some (gi (i + 5))] [] (K, R, V') bc bs) : gX l E (lwF b L xs (gB E)) 572 [some (ga 2000010), some (ga 0), some (ga 775), some (gi (i))] [] (K, R, V) bc bs := by
  have z1 := sx_in xs (i + 1)
  have z2 := sx_in xs (i + 2)
  have z3 := sx_in xs (i + 3)
  have z4 := sx_in xs (i + 4)
  refine gX_aloadn dL_law_572 rfl ?_
  refine gX_aloadn dL_law_573 rfl ?_
  refine gX_iloadn dL_law_574 rfl ?_
  refine gX_iconst dL_law_575 ⟨by decide, by decide⟩ ?_
  refine gX_iadd dL_law_576 ⟨by omega, by omega⟩ ?_
  refine lwLd hE dL_law_577 hL (by omega) (by omega) ?_
  refine gX_aloadn dL_law_578 rfl ?_
  refine gX_iloadn dL_law_579 rfl ?_
  refine gX_iconst dL_law_580 ⟨by decide, by decide⟩ ?_
  refine gX_iadd dL_law_581 ⟨by omega, by omega⟩ ?_
  refine lwLd hE dL_law_582 hL (by omega) (by omega) ?_
  refine gX_aloadn dL_law_583 rfl ?_
  refine gX_iloadn dL_law_584 rfl ?_
  refine gX_iconst dL_law_585 ⟨by decide, by decide⟩ ?_
  refine gX_iadd dL_law_586 ⟨by omega, by omega⟩ ?_
  refine lwLd hE dL_law_587 hL (by omega) (by omega) ?_
  refine gX_virt (J := iX11_gloss) (av := [gi (sx xs (i + 1)), gi (sx xs (i + 2)), gi (sx xs (i + 3))]) (a := 0) (st := []) dL_law_588 lkL_69 kX11_gloss vX11_gloss (lwFit (d := 40) (by decide) (by decide)) hG.2.1 rfl rfl (Nat.le_of_ble_eq_true rfl) (Nat.zero_le _) (Nat.zero_le _) rfl ?_
  refine c_gloss (d := 37) hG hS (fun V1 hS1 hf1 => ?_)
  show gX l E _ 591 [some (ga 2000010), some (ga 0), some (ga 775), some (gi i)] [gi (aGloss S (sx xs (i + 1)) (sx xs (i + 2)) (sx xs (i + 3)))] (K, R, V1) _ _
  have hT1 := hT.cls hf1
  refine gX_aloadn dL_law_591 rfl ?_
  refine gX_aloadn dL_law_592 rfl ?_
  refine gX_iloadn dL_law_593 rfl ?_
  refine gX_iconst dL_law_594 ⟨by decide, by decide⟩ ?_
  refine gX_iadd dL_law_595 ⟨by omega, by omega⟩ ?_
  refine lwLd hE dL_law_596 hL (by omega) (by omega) ?_
  refine gX_aloadn dL_law_597 rfl ?_
  refine gX_iloadn dL_law_598 rfl ?_
  refine gX_iconst dL_law_599 ⟨by decide, by decide⟩ ?_
  refine gX_iadd dL_law_600 ⟨by omega, by omega⟩ ?_
  refine lwLd hE dL_law_601 hL (by omega) (by omega) ?_
  refine gX_aloadn dL_law_602 rfl ?_
  refine gX_iloadn dL_law_603 rfl ?_
  refine gX_iconst dL_law_604 ⟨by decide, by decide⟩ ?_
  refine gX_iadd dL_law_605 ⟨by omega, by omega⟩ ?_
  refine lwLd hE dL_law_606 hL (by omega) (by omega) ?_
  refine gX_virt (J := iX12_gloss) (av := [gi (sx xs (i + 1)), gi (sx xs (i + 2)), gi (sx xs (i + 3))]) (a := 775) (st := [gi (aGloss S (sx xs (i + 1)) (sx xs (i + 2)) (sx xs (i + 3)))]) dL_law_607 lkL_72 kX12_gloss vX12_gloss (lwFit (d := 40) (by decide) (by decide)) hM.1 rfl rfl (Nat.le_of_ble_eq_true rfl) (Nat.zero_le _) (Nat.zero_le _) rfl ?_
  refine m_gloss (d := 36) hM hT1 (fun b b0 b1 => (hI.1 b b0 b1).1) (fun V2 q2 => ?_)
  show gX l E _ 610 [some (ga 2000010), some (ga 0), some (ga 775), some (gi i)] [gi (aGloss S (sx xs (i + 1)) (sx xs (i + 2)) (sx xs (i + 3))), gi (aGloss S (sx xs (i + 1)) (sx xs (i + 2)) (sx xs (i + 3)))] (K, R, V2) _ _
  refine gX_icmpeq (tgt := 1192) dL_law_610 (by decide) (fun w1 => ?_) (fun w1 => ?_)
  · refine gX_iinc dL_law_1192 rfl (show (3 : Nat) < 4 from by decide) ⟨by omega, by omega⟩ (ls2 := [some (ga 2000010), some (ga 0), some (ga 775), some (gi (i + 5))]) rfl ?_
    refine gX_goto (tgt := 18) dL_law_1195 (by decide) ?_
    rw [show i + 5 = i + 5 from rfl]
    exact hk V2 S _ _ (hS1.ref (fun a ha => q2.1 a (by omega))) (hT1.look q2) hI
  · first
    | exact absurd rfl (by assumption)
    | exact absurd (gcmp_s _) (by assumption)
    | (exfalso; omega)
set_option maxRecDepth 8000 in
theorem lwC13 (hE : lwE E b) (hL : L ≤ 2560) (hG : gbK K R 3 12 15 16 19 25 32 37) (hM : mdK K R) (hS : gbIs V S) (hT : mdIs V S) (hI : siS S) (h0 : 0 ≤ i) (h1 : i + 5 ≤ L) (hk : ∀ (V' : Int → Int → Int) (S' : gbS) (bc bs : Nat), gbIs V' S' → mdIs V' S' → siS S' → gX l E (lwF b L xs (gB E)) 18 [some (ga 2000010), some (ga 0), some (ga 775), some (gi (i + 5))] [] (K, R, V') bc bs) : gX l E (lwF b L xs (gB E)) 615 [some (ga 2000010), some (ga 0), some (ga 775), some (gi (i))] [] (K, R, V) bc bs := by
  have z1 := sx_in xs (i + 1)
  have z2 := sx_in xs (i + 2)
  have z3 := sx_in xs (i + 3)
  have z4 := sx_in xs (i + 4)
  refine gX_aloadn dL_law_615 rfl ?_
  refine gX_aloadn dL_law_616 rfl ?_
  refine gX_iloadn dL_law_617 rfl ?_
  refine gX_iconst dL_law_618 ⟨by decide, by decide⟩ ?_
  refine gX_iadd dL_law_619 ⟨by omega, by omega⟩ ?_
  refine lwLd hE dL_law_620 hL (by omega) (by omega) ?_
  refine gX_virt (J := iX11_count) (av := [gi (sx xs (i + 1))]) (a := 0) (st := []) dL_law_621 lkL_73 kX11_count vX11_count (lwFit (d := 40) (by decide) (by decide)) hG.2.1 rfl rfl (Nat.le_of_ble_eq_true rfl) (Nat.zero_le _) (Nat.zero_le _) rfl ?_
  refine c_count (d := 37) hG hS (fun V1 hS1 hf1 => ?_)
  show gX l E _ 624 [some (ga 2000010), some (ga 0), some (ga 775), some (gi i)] [gi (aCount S (sx xs (i + 1)))] (K, R, V1) _ _
  have hT1 := hT.cls hf1
  refine gX_aloadn dL_law_624 rfl ?_
  refine gX_aloadn dL_law_625 rfl ?_
  refine gX_iloadn dL_law_626 rfl ?_
  refine gX_iconst dL_law_627 ⟨by decide, by decide⟩ ?_
  refine gX_iadd dL_law_628 ⟨by omega, by omega⟩ ?_
  refine lwLd hE dL_law_629 hL (by omega) (by omega) ?_
  refine gX_virt (J := iX12_count) (av := [gi (sx xs (i + 1))]) (a := 775) (st := [gi (aCount S (sx xs (i + 1)))]) dL_law_630 lkL_76 kX12_count vX12_count (lwFit (d := 40) (by decide) (by decide)) hM.1 rfl rfl (Nat.le_of_ble_eq_true rfl) (Nat.zero_le _) (Nat.zero_le _) rfl ?_
  refine m_count (d := 39) hM hT1 hI.2.1 (fun V2 q2 => ?_)
  show gX l E _ 633 [some (ga 2000010), some (ga 0), some (ga 775), some (gi i)] [gi (aCount S (sx xs (i + 1))), gi (aCount S (sx xs (i + 1)))] (K, R, V2) _ _
  refine gX_icmpeq (tgt := 1192) dL_law_633 (by decide) (fun w1 => ?_) (fun w1 => ?_)
  · refine gX_iinc dL_law_1192 rfl (show (3 : Nat) < 4 from by decide) ⟨by omega, by omega⟩ (ls2 := [some (ga 2000010), some (ga 0), some (ga 775), some (gi (i + 5))]) rfl ?_
    refine gX_goto (tgt := 18) dL_law_1195 (by decide) ?_
    rw [show i + 5 = i + 5 from rfl]
    exact hk V2 S _ _ (hS1.ref (fun a ha => q2.1 a (by omega))) (hT1.look q2) hI
  · first
    | exact absurd rfl (by assumption)
    | exact absurd (gcmp_s _) (by assumption)
    | (exfalso; omega)
set_option maxRecDepth 8000 in
theorem lwC14 (hE : lwE E b) (hL : L ≤ 2560) (hG : gbK K R 3 12 15 16 19 25 32 37) (hM : mdK K R) (hS : gbIs V S) (hT : mdIs V S) (hI : siS S) (h0 : 0 ≤ i) (h1 : i + 5 ≤ L) (hk : ∀ (V' : Int → Int → Int) (S' : gbS) (bc bs : Nat), gbIs V' S' → mdIs V' S' → siS S' → gX l E (lwF b L xs (gB E)) 18 [some (ga 2000010), some (ga 0), some (ga 775), some (gi (i + 5))] [] (K, R, V') bc bs) : gX l E (lwF b L xs (gB E)) 638 [some (ga 2000010), some (ga 0), some (ga 775), some (gi (i))] [] (K, R, V) bc bs := by
  have z1 := sx_in xs (i + 1)
  have z2 := sx_in xs (i + 2)
  have z3 := sx_in xs (i + 3)
  have z4 := sx_in xs (i + 4)
  refine gX_aloadn dL_law_638 rfl ?_
  refine gX_aloadn dL_law_639 rfl ?_
  refine gX_iloadn dL_law_640 rfl ?_
  refine gX_iconst dL_law_641 ⟨by decide, by decide⟩ ?_
  refine gX_iadd dL_law_642 ⟨by omega, by omega⟩ ?_
  refine lwLd hE dL_law_643 hL (by omega) (by omega) ?_
  refine gX_aloadn dL_law_644 rfl ?_
  refine gX_iloadn dL_law_645 rfl ?_
  refine gX_iconst dL_law_646 ⟨by decide, by decide⟩ ?_
  refine gX_iadd dL_law_647 ⟨by omega, by omega⟩ ?_
  refine lwLd hE dL_law_648 hL (by omega) (by omega) ?_
  refine gX_virt (J := iX11_distance) (av := [gi (sx xs (i + 1)), gi (sx xs (i + 2))]) (a := 0) (st := []) dL_law_649 lkL_77 kX11_distance vX11_distance (lwFit (d := 40) (by decide) (by decide)) hG.2.1 rfl rfl (Nat.le_of_ble_eq_true rfl) (Nat.zero_le _) (Nat.zero_le _) rfl ?_
  refine c_distance (d := 35) hG hS (fun V1 hS1 hf1 => ?_)
  show gX l E _ 652 [some (ga 2000010), some (ga 0), some (ga 775), some (gi i)] [gi (aDist S (sx xs (i + 1)) (sx xs (i + 2)))] (K, R, V1) _ _
  have hT1 := hT.cls hf1
  refine gX_aloadn dL_law_652 rfl ?_
  refine gX_aloadn dL_law_653 rfl ?_
  refine gX_iloadn dL_law_654 rfl ?_
  refine gX_iconst dL_law_655 ⟨by decide, by decide⟩ ?_
  refine gX_iadd dL_law_656 ⟨by omega, by omega⟩ ?_
  refine lwLd hE dL_law_657 hL (by omega) (by omega) ?_
  refine gX_aloadn dL_law_658 rfl ?_
  refine gX_iloadn dL_law_659 rfl ?_
  refine gX_iconst dL_law_660 ⟨by decide, by decide⟩ ?_
  refine gX_iadd dL_law_661 ⟨by omega, by omega⟩ ?_
  refine lwLd hE dL_law_662 hL (by omega) (by omega) ?_
  refine gX_virt (J := iX12_distance) (av := [gi (sx xs (i + 1)), gi (sx xs (i + 2))]) (a := 775) (st := [gi (aDist S (sx xs (i + 1)) (sx xs (i + 2)))]) dL_law_663 lkL_80 kX12_distance vX12_distance (lwFit (d := 40) (by decide) (by decide)) hM.1 rfl rfl (Nat.le_of_ble_eq_true rfl) (Nat.zero_le _) (Nat.zero_le _) rfl ?_
  refine m_distance (d := 37) hM hT1 (fun V2 q2 => ?_)
  show gX l E _ 666 [some (ga 2000010), some (ga 0), some (ga 775), some (gi i)] [gi (aDist S (sx xs (i + 1)) (sx xs (i + 2))), gi (aDist S (sx xs (i + 1)) (sx xs (i + 2)))] (K, R, V2) _ _
  refine gX_icmpeq (tgt := 1192) dL_law_666 (by decide) (fun w1 => ?_) (fun w1 => ?_)
  · refine gX_iinc dL_law_1192 rfl (show (3 : Nat) < 4 from by decide) ⟨by omega, by omega⟩ (ls2 := [some (ga 2000010), some (ga 0), some (ga 775), some (gi (i + 5))]) rfl ?_
    refine gX_goto (tgt := 18) dL_law_1195 (by decide) ?_
    rw [show i + 5 = i + 5 from rfl]
    exact hk V2 S _ _ (hS1.ref (fun a ha => q2.1 a (by omega))) (hT1.look q2) hI
  · first
    | exact absurd rfl (by assumption)
    | exact absurd (gcmp_s _) (by assumption)
    | (exfalso; omega)
set_option maxRecDepth 8000 in
theorem lwC15 (hE : lwE E b) (hL : L ≤ 2560) (hG : gbK K R 3 12 15 16 19 25 32 37) (hM : mdK K R) (hS : gbIs V S) (hT : mdIs V S) (hI : siS S) (h0 : 0 ≤ i) (h1 : i + 5 ≤ L) (hk : ∀ (V' : Int → Int → Int) (S' : gbS) (bc bs : Nat), gbIs V' S' → mdIs V' S' → siS S' → gX l E (lwF b L xs (gB E)) 18 [some (ga 2000010), some (ga 0), some (ga 775), some (gi (i + 5))] [] (K, R, V') bc bs) : gX l E (lwF b L xs (gB E)) 671 [some (ga 2000010), some (ga 0), some (ga 775), some (gi (i))] [] (K, R, V) bc bs := by
  have z1 := sx_in xs (i + 1)
  have z2 := sx_in xs (i + 2)
  have z3 := sx_in xs (i + 3)
  have z4 := sx_in xs (i + 4)
  refine gX_aloadn dL_law_671 rfl ?_
  refine gX_aloadn dL_law_672 rfl ?_
  refine gX_iloadn dL_law_673 rfl ?_
  refine gX_iconst dL_law_674 ⟨by decide, by decide⟩ ?_
  refine gX_iadd dL_law_675 ⟨by omega, by omega⟩ ?_
  refine lwLd hE dL_law_676 hL (by omega) (by omega) ?_
  refine gX_aloadn dL_law_677 rfl ?_
  refine gX_iloadn dL_law_678 rfl ?_
  refine gX_iconst dL_law_679 ⟨by decide, by decide⟩ ?_
  refine gX_iadd dL_law_680 ⟨by omega, by omega⟩ ?_
  refine lwLd hE dL_law_681 hL (by omega) (by omega) ?_
  refine gX_aloadn dL_law_682 rfl ?_
  refine gX_iloadn dL_law_683 rfl ?_
  refine gX_iconst dL_law_684 ⟨by decide, by decide⟩ ?_
  refine gX_iadd dL_law_685 ⟨by omega, by omega⟩ ?_
  refine lwLd hE dL_law_686 hL (by omega) (by omega) ?_
  refine gX_virt (J := iX11_beside) (av := [gi (sx xs (i + 1)), gi (sx xs (i + 2)), gi (sx xs (i + 3))]) (a := 0) (st := []) dL_law_687 lkL_81 kX11_beside vX11_beside (lwFit (d := 40) (by decide) (by decide)) hG.2.1 rfl rfl (Nat.le_of_ble_eq_true rfl) (Nat.zero_le _) (Nat.zero_le _) rfl ?_
  refine c_beside (d := 35) hG hS (fun V1 hS1 hf1 => ?_)
  show gX l E _ 690 [some (ga 2000010), some (ga 0), some (ga 775), some (gi i)] [gi (aBeside S (sx xs (i + 1)) (sx xs (i + 2)) (sx xs (i + 3)))] (K, R, V1) _ _
  have hT1 := hT.cls hf1
  refine gX_aloadn dL_law_690 rfl ?_
  refine gX_aloadn dL_law_691 rfl ?_
  refine gX_iloadn dL_law_692 rfl ?_
  refine gX_iconst dL_law_693 ⟨by decide, by decide⟩ ?_
  refine gX_iadd dL_law_694 ⟨by omega, by omega⟩ ?_
  refine lwLd hE dL_law_695 hL (by omega) (by omega) ?_
  refine gX_aloadn dL_law_696 rfl ?_
  refine gX_iloadn dL_law_697 rfl ?_
  refine gX_iconst dL_law_698 ⟨by decide, by decide⟩ ?_
  refine gX_iadd dL_law_699 ⟨by omega, by omega⟩ ?_
  refine lwLd hE dL_law_700 hL (by omega) (by omega) ?_
  refine gX_aloadn dL_law_701 rfl ?_
  refine gX_iloadn dL_law_702 rfl ?_
  refine gX_iconst dL_law_703 ⟨by decide, by decide⟩ ?_
  refine gX_iadd dL_law_704 ⟨by omega, by omega⟩ ?_
  refine lwLd hE dL_law_705 hL (by omega) (by omega) ?_
  refine gX_virt (J := iX12_beside) (av := [gi (sx xs (i + 1)), gi (sx xs (i + 2)), gi (sx xs (i + 3))]) (a := 775) (st := [gi (aBeside S (sx xs (i + 1)) (sx xs (i + 2)) (sx xs (i + 3)))]) dL_law_706 lkL_84 kX12_beside vX12_beside (lwFit (d := 40) (by decide) (by decide)) hM.1 rfl rfl (Nat.le_of_ble_eq_true rfl) (Nat.zero_le _) (Nat.zero_le _) rfl ?_
  refine m_beside (d := 36) hM hT1 (fun V2 q2 => ?_)
  show gX l E _ 709 [some (ga 2000010), some (ga 0), some (ga 775), some (gi i)] [gi (aBeside S (sx xs (i + 1)) (sx xs (i + 2)) (sx xs (i + 3))), gi (aBeside S (sx xs (i + 1)) (sx xs (i + 2)) (sx xs (i + 3)))] (K, R, V2) _ _
  refine gX_icmpeq (tgt := 1192) dL_law_709 (by decide) (fun w1 => ?_) (fun w1 => ?_)
  · refine gX_iinc dL_law_1192 rfl (show (3 : Nat) < 4 from by decide) ⟨by omega, by omega⟩ (ls2 := [some (ga 2000010), some (ga 0), some (ga 775), some (gi (i + 5))]) rfl ?_
    refine gX_goto (tgt := 18) dL_law_1195 (by decide) ?_
    rw [show i + 5 = i + 5 from rfl]
    exact hk V2 S _ _ (hS1.ref (fun a ha => q2.1 a (by omega))) (hT1.look q2) hI
  · first
    | exact absurd rfl (by assumption)
    | exact absurd (gcmp_s _) (by assumption)
    | (exfalso; omega)
set_option maxRecDepth 8000 in
theorem lwC17 (hE : lwE E b) (hL : L ≤ 2560) (hG : gbK K R 3 12 15 16 19 25 32 37) (hM : mdK K R) (hS : gbIs V S) (hT : mdIs V S) (hI : siS S) (h0 : 0 ≤ i) (h1 : i + 5 ≤ L) (hk : ∀ (V' : Int → Int → Int) (S' : gbS) (bc bs : Nat), gbIs V' S' → mdIs V' S' → siS S' → gX l E (lwF b L xs (gB E)) 18 [some (ga 2000010), some (ga 0), some (ga 775), some (gi (i + 5))] [] (K, R, V') bc bs) : gX l E (lwF b L xs (gB E)) 747 [some (ga 2000010), some (ga 0), some (ga 775), some (gi (i))] [] (K, R, V) bc bs := by
  have z1 := sx_in xs (i + 1)
  have z2 := sx_in xs (i + 2)
  have z3 := sx_in xs (i + 3)
  have z4 := sx_in xs (i + 4)
  refine gX_aloadn dL_law_747 rfl ?_
  refine gX_aloadn dL_law_748 rfl ?_
  refine gX_iloadn dL_law_749 rfl ?_
  refine gX_iconst dL_law_750 ⟨by decide, by decide⟩ ?_
  refine gX_iadd dL_law_751 ⟨by omega, by omega⟩ ?_
  refine lwLd hE dL_law_752 hL (by omega) (by omega) ?_
  refine gX_aloadn dL_law_753 rfl ?_
  refine gX_iloadn dL_law_754 rfl ?_
  refine gX_iconst dL_law_755 ⟨by decide, by decide⟩ ?_
  refine gX_iadd dL_law_756 ⟨by omega, by omega⟩ ?_
  refine lwLd hE dL_law_757 hL (by omega) (by omega) ?_
  refine gX_aloadn dL_law_758 rfl ?_
  refine gX_iloadn dL_law_759 rfl ?_
  refine gX_iconst dL_law_760 ⟨by decide, by decide⟩ ?_
  refine gX_iadd dL_law_761 ⟨by omega, by omega⟩ ?_
  refine lwLd hE dL_law_762 hL (by omega) (by omega) ?_
  refine gX_virt (J := iX11_reading) (av := [gi (sx xs (i + 1)), gi (sx xs (i + 2)), gi (sx xs (i + 3))]) (a := 0) (st := []) dL_law_763 lkL_89 kX11_reading vX11_reading (lwFit (d := 40) (by decide) (by decide)) hG.2.1 rfl rfl (Nat.le_of_ble_eq_true rfl) (Nat.zero_le _) (Nat.zero_le _) rfl ?_
  refine c_reading (d := 35) hG hS (fun V1 hS1 hf1 => ?_)
  show gX l E _ 766 [some (ga 2000010), some (ga 0), some (ga 775), some (gi i)] [gi (aRead S (sx xs (i + 1)) (sx xs (i + 2)) (sx xs (i + 3)))] (K, R, V1) _ _
  have hT1 := hT.cls hf1
  refine gX_aloadn dL_law_766 rfl ?_
  refine gX_aloadn dL_law_767 rfl ?_
  refine gX_iloadn dL_law_768 rfl ?_
  refine gX_iconst dL_law_769 ⟨by decide, by decide⟩ ?_
  refine gX_iadd dL_law_770 ⟨by omega, by omega⟩ ?_
  refine lwLd hE dL_law_771 hL (by omega) (by omega) ?_
  refine gX_aloadn dL_law_772 rfl ?_
  refine gX_iloadn dL_law_773 rfl ?_
  refine gX_iconst dL_law_774 ⟨by decide, by decide⟩ ?_
  refine gX_iadd dL_law_775 ⟨by omega, by omega⟩ ?_
  refine lwLd hE dL_law_776 hL (by omega) (by omega) ?_
  refine gX_aloadn dL_law_777 rfl ?_
  refine gX_iloadn dL_law_778 rfl ?_
  refine gX_iconst dL_law_779 ⟨by decide, by decide⟩ ?_
  refine gX_iadd dL_law_780 ⟨by omega, by omega⟩ ?_
  refine lwLd hE dL_law_781 hL (by omega) (by omega) ?_
  refine gX_virt (J := iX12_reading) (av := [gi (sx xs (i + 1)), gi (sx xs (i + 2)), gi (sx xs (i + 3))]) (a := 775) (st := [gi (aRead S (sx xs (i + 1)) (sx xs (i + 2)) (sx xs (i + 3)))]) dL_law_782 lkL_92 kX12_reading vX12_reading (lwFit (d := 40) (by decide) (by decide)) hM.1 rfl rfl (Nat.le_of_ble_eq_true rfl) (Nat.zero_le _) (Nat.zero_le _) rfl ?_
  refine m_reading (d := 35) hM hT1 (fun V2 q2 => ?_)
  show gX l E _ 785 [some (ga 2000010), some (ga 0), some (ga 775), some (gi i)] [gi (aRead S (sx xs (i + 1)) (sx xs (i + 2)) (sx xs (i + 3))), gi (aRead S (sx xs (i + 1)) (sx xs (i + 2)) (sx xs (i + 3)))] (K, R, V2) _ _
  refine gX_icmpeq (tgt := 1192) dL_law_785 (by decide) (fun w1 => ?_) (fun w1 => ?_)
  · refine gX_iinc dL_law_1192 rfl (show (3 : Nat) < 4 from by decide) ⟨by omega, by omega⟩ (ls2 := [some (ga 2000010), some (ga 0), some (ga 775), some (gi (i + 5))]) rfl ?_
    refine gX_goto (tgt := 18) dL_law_1195 (by decide) ?_
    rw [show i + 5 = i + 5 from rfl]
    exact hk V2 S _ _ (hS1.ref (fun a ha => q2.1 a (by omega))) (hT1.look q2) hI
  · first
    | exact absurd rfl (by assumption)
    | exact absurd (gcmp_s _) (by assumption)
    | (exfalso; omega)
set_option maxRecDepth 8000 in
theorem lwC18 (hE : lwE E b) (hL : L ≤ 2560) (hG : gbK K R 3 12 15 16 19 25 32 37) (hM : mdK K R) (hS : gbIs V S) (hT : mdIs V S) (hI : siS S) (h0 : 0 ≤ i) (h1 : i + 5 ≤ L) (hk : ∀ (V' : Int → Int → Int) (S' : gbS) (bc bs : Nat), gbIs V' S' → mdIs V' S' → siS S' → gX l E (lwF b L xs (gB E)) 18 [some (ga 2000010), some (ga 0), some (ga 775), some (gi (i + 5))] [] (K, R, V') bc bs) : gX l E (lwF b L xs (gB E)) 790 [some (ga 2000010), some (ga 0), some (ga 775), some (gi (i))] [] (K, R, V) bc bs := by
  have z1 := sx_in xs (i + 1)
  have z2 := sx_in xs (i + 2)
  have z3 := sx_in xs (i + 3)
  have z4 := sx_in xs (i + 4)
  refine gX_aloadn dL_law_790 rfl ?_
  refine gX_aloadn dL_law_791 rfl ?_
  refine gX_iloadn dL_law_792 rfl ?_
  refine gX_iconst dL_law_793 ⟨by decide, by decide⟩ ?_
  refine gX_iadd dL_law_794 ⟨by omega, by omega⟩ ?_
  refine lwLd hE dL_law_795 hL (by omega) (by omega) ?_
  refine gX_aloadn dL_law_796 rfl ?_
  refine gX_iloadn dL_law_797 rfl ?_
  refine gX_iconst dL_law_798 ⟨by decide, by decide⟩ ?_
  refine gX_iadd dL_law_799 ⟨by omega, by omega⟩ ?_
  refine lwLd hE dL_law_800 hL (by omega) (by omega) ?_
  refine gX_aloadn dL_law_801 rfl ?_
  refine gX_iloadn dL_law_802 rfl ?_
  refine gX_iconst dL_law_803 ⟨by decide, by decide⟩ ?_
  refine gX_iadd dL_law_804 ⟨by omega, by omega⟩ ?_
  refine lwLd hE dL_law_805 hL (by omega) (by omega) ?_
  refine gX_aloadn dL_law_806 rfl ?_
  refine gX_iloadn dL_law_807 rfl ?_
  refine gX_iconst dL_law_808 ⟨by decide, by decide⟩ ?_
  refine gX_iadd dL_law_809 ⟨by omega, by omega⟩ ?_
  refine lwLd hE dL_law_810 hL (by omega) (by omega) ?_
  refine gX_virt (J := iX11_most) (av := [gi (sx xs (i + 1)), gi (sx xs (i + 2)), gi (sx xs (i + 3)), gi (sx xs (i + 4))]) (a := 0) (st := []) dL_law_811 lkL_93 kX11_most vX11_most (lwFit (d := 40) (by decide) (by decide)) hG.2.1 rfl rfl (Nat.le_of_ble_eq_true rfl) (Nat.zero_le _) (Nat.zero_le _) rfl ?_
  refine c_most (d := 34) hG hS (fun V1 hS1 hf1 => ?_)
  show gX l E _ 814 [some (ga 2000010), some (ga 0), some (ga 775), some (gi i)] [gi (aMost S (sx xs (i + 1)) (sx xs (i + 2)) (sx xs (i + 3)) (sx xs (i + 4)))] (K, R, V1) _ _
  have hT1 := hT.cls hf1
  refine gX_aloadn dL_law_814 rfl ?_
  refine gX_aloadn dL_law_815 rfl ?_
  refine gX_iloadn dL_law_816 rfl ?_
  refine gX_iconst dL_law_817 ⟨by decide, by decide⟩ ?_
  refine gX_iadd dL_law_818 ⟨by omega, by omega⟩ ?_
  refine lwLd hE dL_law_819 hL (by omega) (by omega) ?_
  refine gX_aloadn dL_law_820 rfl ?_
  refine gX_iloadn dL_law_821 rfl ?_
  refine gX_iconst dL_law_822 ⟨by decide, by decide⟩ ?_
  refine gX_iadd dL_law_823 ⟨by omega, by omega⟩ ?_
  refine lwLd hE dL_law_824 hL (by omega) (by omega) ?_
  refine gX_aloadn dL_law_825 rfl ?_
  refine gX_iloadn dL_law_826 rfl ?_
  refine gX_iconst dL_law_827 ⟨by decide, by decide⟩ ?_
  refine gX_iadd dL_law_828 ⟨by omega, by omega⟩ ?_
  refine lwLd hE dL_law_829 hL (by omega) (by omega) ?_
  refine gX_aloadn dL_law_830 rfl ?_
  refine gX_iloadn dL_law_831 rfl ?_
  refine gX_iconst dL_law_832 ⟨by decide, by decide⟩ ?_
  refine gX_iadd dL_law_833 ⟨by omega, by omega⟩ ?_
  refine lwLd hE dL_law_834 hL (by omega) (by omega) ?_
  refine gX_virt (J := iX12_most) (av := [gi (sx xs (i + 1)), gi (sx xs (i + 2)), gi (sx xs (i + 3)), gi (sx xs (i + 4))]) (a := 775) (st := [gi (aMost S (sx xs (i + 1)) (sx xs (i + 2)) (sx xs (i + 3)) (sx xs (i + 4)))]) dL_law_835 lkL_97 kX12_most vX12_most (lwFit (d := 40) (by decide) (by decide)) hM.1 rfl rfl (Nat.le_of_ble_eq_true rfl) (Nat.zero_le _) (Nat.zero_le _) rfl ?_
  refine m_most (d := 35) hM hT1 (sx_in _ _) (fun V2 q2 => ?_)
  show gX l E _ 838 [some (ga 2000010), some (ga 0), some (ga 775), some (gi i)] [gi (aMost S (sx xs (i + 1)) (sx xs (i + 2)) (sx xs (i + 3)) (sx xs (i + 4))), gi (aMost S (sx xs (i + 1)) (sx xs (i + 2)) (sx xs (i + 3)) (sx xs (i + 4)))] (K, R, V2) _ _
  refine gX_icmpeq (tgt := 1192) dL_law_838 (by decide) (fun w1 => ?_) (fun w1 => ?_)
  · refine gX_iinc dL_law_1192 rfl (show (3 : Nat) < 4 from by decide) ⟨by omega, by omega⟩ (ls2 := [some (ga 2000010), some (ga 0), some (ga 775), some (gi (i + 5))]) rfl ?_
    refine gX_goto (tgt := 18) dL_law_1195 (by decide) ?_
    rw [show i + 5 = i + 5 from rfl]
    exact hk V2 S _ _ (hS1.ref (fun a ha => q2.1 a (by omega))) (hT1.look q2) hI
  · first
    | exact absurd rfl (by assumption)
    | exact absurd (gcmp_s _) (by assumption)
    | (exfalso; omega)
set_option maxRecDepth 8000 in
theorem lwC19 (hE : lwE E b) (hL : L ≤ 2560) (hG : gbK K R 3 12 15 16 19 25 32 37) (hM : mdK K R) (hS : gbIs V S) (hT : mdIs V S) (hI : siS S) (h0 : 0 ≤ i) (h1 : i + 5 ≤ L) (hk : ∀ (V' : Int → Int → Int) (S' : gbS) (bc bs : Nat), gbIs V' S' → mdIs V' S' → siS S' → gX l E (lwF b L xs (gB E)) 18 [some (ga 2000010), some (ga 0), some (ga 775), some (gi (i + 5))] [] (K, R, V') bc bs) : gX l E (lwF b L xs (gB E)) 843 [some (ga 2000010), some (ga 0), some (ga 775), some (gi (i))] [] (K, R, V) bc bs := by
  have z1 := sx_in xs (i + 1)
  have z2 := sx_in xs (i + 2)
  have z3 := sx_in xs (i + 3)
  have z4 := sx_in xs (i + 4)
  refine gX_aloadn dL_law_843 rfl ?_
  refine gX_aloadn dL_law_844 rfl ?_
  refine gX_iloadn dL_law_845 rfl ?_
  refine gX_iconst dL_law_846 ⟨by decide, by decide⟩ ?_
  refine gX_iadd dL_law_847 ⟨by omega, by omega⟩ ?_
  refine lwLd hE dL_law_848 hL (by omega) (by omega) ?_
  refine gX_aloadn dL_law_849 rfl ?_
  refine gX_iloadn dL_law_850 rfl ?_
  refine gX_iconst dL_law_851 ⟨by decide, by decide⟩ ?_
  refine gX_iadd dL_law_852 ⟨by omega, by omega⟩ ?_
  refine lwLd hE dL_law_853 hL (by omega) (by omega) ?_
  refine gX_aloadn dL_law_854 rfl ?_
  refine gX_iloadn dL_law_855 rfl ?_
  refine gX_iconst dL_law_856 ⟨by decide, by decide⟩ ?_
  refine gX_iadd dL_law_857 ⟨by omega, by omega⟩ ?_
  refine lwLd hE dL_law_858 hL (by omega) (by omega) ?_
  refine gX_virt (J := iX11_restored) (av := [gi (sx xs (i + 1)), gi (sx xs (i + 2)), gi (sx xs (i + 3))]) (a := 0) (st := []) dL_law_859 lkL_98 kX11_restored vX11_restored (lwFit (d := 40) (by decide) (by decide)) hG.2.1 rfl rfl (Nat.le_of_ble_eq_true rfl) (Nat.zero_le _) (Nat.zero_le _) rfl ?_
  refine c_gbRestored (d := 34) hG hS (fun V1 hS1 hf1 => ?_)
  show gX l E _ 862 [some (ga 2000010), some (ga 0), some (ga 775), some (gi i)] [gi (aRest S (sx xs (i + 1)) (sx xs (i + 2)) (sx xs (i + 3)))] (K, R, V1) _ _
  have hT1 := hT.cls hf1
  refine gX_aloadn dL_law_862 rfl ?_
  refine gX_aloadn dL_law_863 rfl ?_
  refine gX_iloadn dL_law_864 rfl ?_
  refine gX_iconst dL_law_865 ⟨by decide, by decide⟩ ?_
  refine gX_iadd dL_law_866 ⟨by omega, by omega⟩ ?_
  refine lwLd hE dL_law_867 hL (by omega) (by omega) ?_
  refine gX_aloadn dL_law_868 rfl ?_
  refine gX_iloadn dL_law_869 rfl ?_
  refine gX_iconst dL_law_870 ⟨by decide, by decide⟩ ?_
  refine gX_iadd dL_law_871 ⟨by omega, by omega⟩ ?_
  refine lwLd hE dL_law_872 hL (by omega) (by omega) ?_
  refine gX_aloadn dL_law_873 rfl ?_
  refine gX_iloadn dL_law_874 rfl ?_
  refine gX_iconst dL_law_875 ⟨by decide, by decide⟩ ?_
  refine gX_iadd dL_law_876 ⟨by omega, by omega⟩ ?_
  refine lwLd hE dL_law_877 hL (by omega) (by omega) ?_
  refine gX_virt (J := iX12_restored) (av := [gi (sx xs (i + 1)), gi (sx xs (i + 2)), gi (sx xs (i + 3))]) (a := 775) (st := [gi (aRest S (sx xs (i + 1)) (sx xs (i + 2)) (sx xs (i + 3)))]) dL_law_878 lkL_101 kX12_restored vX12_restored (lwFit (d := 40) (by decide) (by decide)) hM.1 rfl rfl (Nat.le_of_ble_eq_true rfl) (Nat.zero_le _) (Nat.zero_le _) rfl ?_
  refine m_restored (d := 35) hM hT1 (sx_in _ _) hI.wd (fun V2 q2 => ?_)
  show gX l E _ 881 [some (ga 2000010), some (ga 0), some (ga 775), some (gi i)] [gi (aRest S (sx xs (i + 1)) (sx xs (i + 2)) (sx xs (i + 3))), gi (aRest S (sx xs (i + 1)) (sx xs (i + 2)) (sx xs (i + 3)))] (K, R, V2) _ _
  refine gX_icmpeq (tgt := 1192) dL_law_881 (by decide) (fun w1 => ?_) (fun w1 => ?_)
  · refine gX_iinc dL_law_1192 rfl (show (3 : Nat) < 4 from by decide) ⟨by omega, by omega⟩ (ls2 := [some (ga 2000010), some (ga 0), some (ga 775), some (gi (i + 5))]) rfl ?_
    refine gX_goto (tgt := 18) dL_law_1195 (by decide) ?_
    rw [show i + 5 = i + 5 from rfl]
    exact hk V2 S _ _ (hS1.ref (fun a ha => q2.1 a (by omega))) (hT1.look q2) hI
  · first
    | exact absurd rfl (by assumption)
    | exact absurd (gcmp_s _) (by assumption)
    | (exfalso; omega)
set_option maxRecDepth 8000 in
theorem lwC20 (hE : lwE E b) (hL : L ≤ 2560) (hG : gbK K R 3 12 15 16 19 25 32 37) (hM : mdK K R) (hS : gbIs V S) (hT : mdIs V S) (hI : siS S) (h0 : 0 ≤ i) (h1 : i + 5 ≤ L) (hk : ∀ (V' : Int → Int → Int) (S' : gbS) (bc bs : Nat), gbIs V' S' → mdIs V' S' → siS S' → gX l E (lwF b L xs (gB E)) 18 [some (ga 2000010), some (ga 0), some (ga 775), some (gi (i + 5))] [] (K, R, V') bc bs) : gX l E (lwF b L xs (gB E)) 886 [some (ga 2000010), some (ga 0), some (ga 775), some (gi (i))] [] (K, R, V) bc bs := by
  have z1 := sx_in xs (i + 1)
  have z2 := sx_in xs (i + 2)
  have z3 := sx_in xs (i + 3)
  have z4 := sx_in xs (i + 4)
  refine gX_aloadn dL_law_886 rfl ?_
  refine gX_aloadn dL_law_887 rfl ?_
  refine gX_iloadn dL_law_888 rfl ?_
  refine gX_iconst dL_law_889 ⟨by decide, by decide⟩ ?_
  refine gX_iadd dL_law_890 ⟨by omega, by omega⟩ ?_
  refine lwLd hE dL_law_891 hL (by omega) (by omega) ?_
  refine gX_aloadn dL_law_892 rfl ?_
  refine gX_iloadn dL_law_893 rfl ?_
  refine gX_iconst dL_law_894 ⟨by decide, by decide⟩ ?_
  refine gX_iadd dL_law_895 ⟨by omega, by omega⟩ ?_
  refine lwLd hE dL_law_896 hL (by omega) (by omega) ?_
  refine gX_aloadn dL_law_897 rfl ?_
  refine gX_iloadn dL_law_898 rfl ?_
  refine gX_iconst dL_law_899 ⟨by decide, by decide⟩ ?_
  refine gX_iadd dL_law_900 ⟨by omega, by omega⟩ ?_
  refine lwLd hE dL_law_901 hL (by omega) (by omega) ?_
  refine gX_virt (J := iX11_group) (av := [gi (sx xs (i + 1)), gi (sx xs (i + 2)), gi (sx xs (i + 3))]) (a := 0) (st := []) dL_law_902 lkL_102 kX11_group vX11_group (lwFit (d := 40) (by decide) (by decide)) hG.2.1 rfl rfl (Nat.le_of_ble_eq_true rfl) (Nat.zero_le _) (Nat.zero_le _) rfl ?_
  refine c_group (d := 34) hG hS (fun V1 hS1 hf1 => ?_)
  show gX l E _ 905 [some (ga 2000010), some (ga 0), some (ga 775), some (gi i)] [gi (aGroup S (sx xs (i + 1)) (sx xs (i + 2)) (sx xs (i + 3)))] (K, R, V1) _ _
  have hT1 := hT.cls hf1
  refine gX_aloadn dL_law_905 rfl ?_
  refine gX_aloadn dL_law_906 rfl ?_
  refine gX_iloadn dL_law_907 rfl ?_
  refine gX_iconst dL_law_908 ⟨by decide, by decide⟩ ?_
  refine gX_iadd dL_law_909 ⟨by omega, by omega⟩ ?_
  refine lwLd hE dL_law_910 hL (by omega) (by omega) ?_
  refine gX_aloadn dL_law_911 rfl ?_
  refine gX_iloadn dL_law_912 rfl ?_
  refine gX_iconst dL_law_913 ⟨by decide, by decide⟩ ?_
  refine gX_iadd dL_law_914 ⟨by omega, by omega⟩ ?_
  refine lwLd hE dL_law_915 hL (by omega) (by omega) ?_
  refine gX_aloadn dL_law_916 rfl ?_
  refine gX_iloadn dL_law_917 rfl ?_
  refine gX_iconst dL_law_918 ⟨by decide, by decide⟩ ?_
  refine gX_iadd dL_law_919 ⟨by omega, by omega⟩ ?_
  refine lwLd hE dL_law_920 hL (by omega) (by omega) ?_
  refine gX_virt (J := iX12_group) (av := [gi (sx xs (i + 1)), gi (sx xs (i + 2)), gi (sx xs (i + 3))]) (a := 775) (st := [gi (aGroup S (sx xs (i + 1)) (sx xs (i + 2)) (sx xs (i + 3)))]) dL_law_921 lkL_105 kX12_group vX12_group (lwFit (d := 40) (by decide) (by decide)) hM.1 rfl rfl (Nat.le_of_ble_eq_true rfl) (Nat.zero_le _) (Nat.zero_le _) rfl ?_
  refine m_group (d := 34) hM hT1 (sx_in _ _) (fun x1 x2 => rgL_grpL hT.2.1 ((hI.any hT _).2.2.1) x1 x2) (fun V2 q2 => ?_)
  show gX l E _ 924 [some (ga 2000010), some (ga 0), some (ga 775), some (gi i)] [gi (aGroup S (sx xs (i + 1)) (sx xs (i + 2)) (sx xs (i + 3))), gi (aGroup S (sx xs (i + 1)) (sx xs (i + 2)) (sx xs (i + 3)))] (K, R, V2) _ _
  refine gX_icmpeq (tgt := 1192) dL_law_924 (by decide) (fun w1 => ?_) (fun w1 => ?_)
  · refine gX_iinc dL_law_1192 rfl (show (3 : Nat) < 4 from by decide) ⟨by omega, by omega⟩ (ls2 := [some (ga 2000010), some (ga 0), some (ga 775), some (gi (i + 5))]) rfl ?_
    refine gX_goto (tgt := 18) dL_law_1195 (by decide) ?_
    rw [show i + 5 = i + 5 from rfl]
    exact hk V2 S _ _ (hS1.ref (fun a ha => q2.1 a (by omega))) (hT1.look q2) hI
  · first
    | exact absurd rfl (by assumption)
    | exact absurd (gcmp_s _) (by assumption)
    | (exfalso; omega)
set_option maxRecDepth 8000 in
theorem lwC21 (hE : lwE E b) (hL : L ≤ 2560) (hG : gbK K R 3 12 15 16 19 25 32 37) (hM : mdK K R) (hS : gbIs V S) (hT : mdIs V S) (hI : siS S) (h0 : 0 ≤ i) (h1 : i + 5 ≤ L) (hk : ∀ (V' : Int → Int → Int) (S' : gbS) (bc bs : Nat), gbIs V' S' → mdIs V' S' → siS S' → gX l E (lwF b L xs (gB E)) 18 [some (ga 2000010), some (ga 0), some (ga 775), some (gi (i + 5))] [] (K, R, V') bc bs) : gX l E (lwF b L xs (gB E)) 929 [some (ga 2000010), some (ga 0), some (ga 775), some (gi (i))] [] (K, R, V) bc bs := by
  have z1 := sx_in xs (i + 1)
  have z2 := sx_in xs (i + 2)
  have z3 := sx_in xs (i + 3)
  have z4 := sx_in xs (i + 4)
  refine gX_aloadn dL_law_929 rfl ?_
  refine gX_aloadn dL_law_930 rfl ?_
  refine gX_iloadn dL_law_931 rfl ?_
  refine gX_iconst dL_law_932 ⟨by decide, by decide⟩ ?_
  refine gX_iadd dL_law_933 ⟨by omega, by omega⟩ ?_
  refine lwLd hE dL_law_934 hL (by omega) (by omega) ?_
  refine gX_aloadn dL_law_935 rfl ?_
  refine gX_iloadn dL_law_936 rfl ?_
  refine gX_iconst dL_law_937 ⟨by decide, by decide⟩ ?_
  refine gX_iadd dL_law_938 ⟨by omega, by omega⟩ ?_
  refine lwLd hE dL_law_939 hL (by omega) (by omega) ?_
  refine gX_virt (J := iX11_clash) (av := [gi (sx xs (i + 1)), gi (sx xs (i + 2))]) (a := 0) (st := []) dL_law_940 lkL_106 kX11_clash vX11_clash (lwFit (d := 40) (by decide) (by decide)) hG.2.1 rfl rfl (Nat.le_of_ble_eq_true rfl) (Nat.zero_le _) (Nat.zero_le _) rfl ?_
  refine c_clash (d := 34) hG hS (fun V1 hS1 hf1 => ?_)
  show gX l E _ 943 [some (ga 2000010), some (ga 0), some (ga 775), some (gi i)] [gi (aClash S (sx xs (i + 1)) (sx xs (i + 2)))] (K, R, V1) _ _
  have hT1 := hT.cls hf1
  refine gX_aloadn dL_law_943 rfl ?_
  refine gX_aloadn dL_law_944 rfl ?_
  refine gX_iloadn dL_law_945 rfl ?_
  refine gX_iconst dL_law_946 ⟨by decide, by decide⟩ ?_
  refine gX_iadd dL_law_947 ⟨by omega, by omega⟩ ?_
  refine lwLd hE dL_law_948 hL (by omega) (by omega) ?_
  refine gX_aloadn dL_law_949 rfl ?_
  refine gX_iloadn dL_law_950 rfl ?_
  refine gX_iconst dL_law_951 ⟨by decide, by decide⟩ ?_
  refine gX_iadd dL_law_952 ⟨by omega, by omega⟩ ?_
  refine lwLd hE dL_law_953 hL (by omega) (by omega) ?_
  refine gX_virt (J := iX12_clash) (av := [gi (sx xs (i + 1)), gi (sx xs (i + 2))]) (a := 775) (st := [gi (aClash S (sx xs (i + 1)) (sx xs (i + 2)))]) dL_law_954 lkL_109 kX12_clash vX12_clash (lwFit (d := 40) (by decide) (by decide)) hM.1 rfl rfl (Nat.le_of_ble_eq_true rfl) (Nat.zero_le _) (Nat.zero_le _) rfl ?_
  refine m_clash (d := 34) hM hT1 (sx_in _ _) (fun x1 x2 => rgL_grpL hT.2.1 ((hI.any hT _).2.2.1) x1 x2) (fun V2 q2 => ?_)
  show gX l E _ 957 [some (ga 2000010), some (ga 0), some (ga 775), some (gi i)] [gi (aClash S (sx xs (i + 1)) (sx xs (i + 2))), gi (aClash S (sx xs (i + 1)) (sx xs (i + 2)))] (K, R, V2) _ _
  refine gX_icmpeq (tgt := 1192) dL_law_957 (by decide) (fun w1 => ?_) (fun w1 => ?_)
  · refine gX_iinc dL_law_1192 rfl (show (3 : Nat) < 4 from by decide) ⟨by omega, by omega⟩ (ls2 := [some (ga 2000010), some (ga 0), some (ga 775), some (gi (i + 5))]) rfl ?_
    refine gX_goto (tgt := 18) dL_law_1195 (by decide) ?_
    rw [show i + 5 = i + 5 from rfl]
    exact hk V2 S _ _ (hS1.ref (fun a ha => q2.1 a (by omega))) (hT1.look q2) hI
  · first
    | exact absurd rfl (by assumption)
    | exact absurd (gcmp_s _) (by assumption)
    | (exfalso; omega)
set_option maxRecDepth 8000 in
theorem lwC22 (hE : lwE E b) (hL : L ≤ 2560) (hG : gbK K R 3 12 15 16 19 25 32 37) (hM : mdK K R) (hS : gbIs V S) (hT : mdIs V S) (hI : siS S) (h0 : 0 ≤ i) (h1 : i + 5 ≤ L) (hk : ∀ (V' : Int → Int → Int) (S' : gbS) (bc bs : Nat), gbIs V' S' → mdIs V' S' → siS S' → gX l E (lwF b L xs (gB E)) 18 [some (ga 2000010), some (ga 0), some (ga 775), some (gi (i + 5))] [] (K, R, V') bc bs) : gX l E (lwF b L xs (gB E)) 962 [some (ga 2000010), some (ga 0), some (ga 775), some (gi (i))] [] (K, R, V) bc bs := by
  have z1 := sx_in xs (i + 1)
  have z2 := sx_in xs (i + 2)
  have z3 := sx_in xs (i + 3)
  have z4 := sx_in xs (i + 4)
  refine gX_aloadn dL_law_962 rfl ?_
  refine gX_aloadn dL_law_963 rfl ?_
  refine gX_iloadn dL_law_964 rfl ?_
  refine gX_iconst dL_law_965 ⟨by decide, by decide⟩ ?_
  refine gX_iadd dL_law_966 ⟨by omega, by omega⟩ ?_
  refine lwLd hE dL_law_967 hL (by omega) (by omega) ?_
  refine gX_aloadn dL_law_968 rfl ?_
  refine gX_iloadn dL_law_969 rfl ?_
  refine gX_iconst dL_law_970 ⟨by decide, by decide⟩ ?_
  refine gX_iadd dL_law_971 ⟨by omega, by omega⟩ ?_
  refine lwLd hE dL_law_972 hL (by omega) (by omega) ?_
  refine gX_aloadn dL_law_973 rfl ?_
  refine gX_iloadn dL_law_974 rfl ?_
  refine gX_iconst dL_law_975 ⟨by decide, by decide⟩ ?_
  refine gX_iadd dL_law_976 ⟨by omega, by omega⟩ ?_
  refine lwLd hE dL_law_977 hL (by omega) (by omega) ?_
  refine gX_virt (J := iX11_sound) (av := [gi (sx xs (i + 1)), gi (sx xs (i + 2)), gi (sx xs (i + 3))]) (a := 0) (st := []) dL_law_978 lkL_110 kX11_sound vX11_sound (lwFit (d := 40) (by decide) (by decide)) hG.2.1 rfl rfl (Nat.le_of_ble_eq_true rfl) (Nat.zero_le _) (Nat.zero_le _) rfl ?_
  refine c_sound (d := 34) hG hS (fun V1 hS1 hf1 => ?_)
  show gX l E _ 981 [some (ga 2000010), some (ga 0), some (ga 775), some (gi i)] [gi (aSound S (sx xs (i + 1)) (sx xs (i + 2)) (sx xs (i + 3)))] (K, R, V1) _ _
  have hT1 := hT.cls hf1
  refine gX_aloadn dL_law_981 rfl ?_
  refine gX_aloadn dL_law_982 rfl ?_
  refine gX_iloadn dL_law_983 rfl ?_
  refine gX_iconst dL_law_984 ⟨by decide, by decide⟩ ?_
  refine gX_iadd dL_law_985 ⟨by omega, by omega⟩ ?_
  refine lwLd hE dL_law_986 hL (by omega) (by omega) ?_
  refine gX_aloadn dL_law_987 rfl ?_
  refine gX_iloadn dL_law_988 rfl ?_
  refine gX_iconst dL_law_989 ⟨by decide, by decide⟩ ?_
  refine gX_iadd dL_law_990 ⟨by omega, by omega⟩ ?_
  refine lwLd hE dL_law_991 hL (by omega) (by omega) ?_
  refine gX_aloadn dL_law_992 rfl ?_
  refine gX_iloadn dL_law_993 rfl ?_
  refine gX_iconst dL_law_994 ⟨by decide, by decide⟩ ?_
  refine gX_iadd dL_law_995 ⟨by omega, by omega⟩ ?_
  refine lwLd hE dL_law_996 hL (by omega) (by omega) ?_
  refine gX_virt (J := iX12_sound) (av := [gi (sx xs (i + 1)), gi (sx xs (i + 2)), gi (sx xs (i + 3))]) (a := 775) (st := [gi (aSound S (sx xs (i + 1)) (sx xs (i + 2)) (sx xs (i + 3)))]) dL_law_997 lkL_113 kX12_sound vX12_sound (lwFit (d := 40) (by decide) (by decide)) hM.1 rfl rfl (Nat.le_of_ble_eq_true rfl) (Nat.zero_le _) (Nat.zero_le _) rfl ?_
  refine m_sound (d := 34) hM hT1 (sx_in _ _) (fun x1 x2 => rgL_grpL hT.2.1 ((hI.any hT _).2.2.1) x1 x2) (fun V2 q2 => ?_)
  show gX l E _ 1000 [some (ga 2000010), some (ga 0), some (ga 775), some (gi i)] [gi (aSound S (sx xs (i + 1)) (sx xs (i + 2)) (sx xs (i + 3))), gi (aSound S (sx xs (i + 1)) (sx xs (i + 2)) (sx xs (i + 3)))] (K, R, V2) _ _
  refine gX_icmpeq (tgt := 1192) dL_law_1000 (by decide) (fun w1 => ?_) (fun w1 => ?_)
  · refine gX_iinc dL_law_1192 rfl (show (3 : Nat) < 4 from by decide) ⟨by omega, by omega⟩ (ls2 := [some (ga 2000010), some (ga 0), some (ga 775), some (gi (i + 5))]) rfl ?_
    refine gX_goto (tgt := 18) dL_law_1195 (by decide) ?_
    rw [show i + 5 = i + 5 from rfl]
    exact hk V2 S _ _ (hS1.ref (fun a ha => q2.1 a (by omega))) (hT1.look q2) hI
  · first
    | exact absurd rfl (by assumption)
    | exact absurd (gcmp_s _) (by assumption)
    | (exfalso; omega)
set_option maxRecDepth 8000 in
theorem lwC23 (hE : lwE E b) (hL : L ≤ 2560) (hG : gbK K R 3 12 15 16 19 25 32 37) (hM : mdK K R) (hS : gbIs V S) (hT : mdIs V S) (hI : siS S) (h0 : 0 ≤ i) (h1 : i + 5 ≤ L) (hk : ∀ (V' : Int → Int → Int) (S' : gbS) (bc bs : Nat), gbIs V' S' → mdIs V' S' → siS S' → gX l E (lwF b L xs (gB E)) 18 [some (ga 2000010), some (ga 0), some (ga 775), some (gi (i + 5))] [] (K, R, V') bc bs) : gX l E (lwF b L xs (gB E)) 1005 [some (ga 2000010), some (ga 0), some (ga 775), some (gi (i))] [] (K, R, V) bc bs := by
  have z1 := sx_in xs (i + 1)
  have z2 := sx_in xs (i + 2)
  have z3 := sx_in xs (i + 3)
  have z4 := sx_in xs (i + 4)
  refine gX_aloadn dL_law_1005 rfl ?_
  refine gX_aloadn dL_law_1006 rfl ?_
  refine gX_iloadn dL_law_1007 rfl ?_
  refine gX_iconst dL_law_1008 ⟨by decide, by decide⟩ ?_
  refine gX_iadd dL_law_1009 ⟨by omega, by omega⟩ ?_
  refine lwLd hE dL_law_1010 hL (by omega) (by omega) ?_
  refine gX_aloadn dL_law_1011 rfl ?_
  refine gX_iloadn dL_law_1012 rfl ?_
  refine gX_iconst dL_law_1013 ⟨by decide, by decide⟩ ?_
  refine gX_iadd dL_law_1014 ⟨by omega, by omega⟩ ?_
  refine lwLd hE dL_law_1015 hL (by omega) (by omega) ?_
  refine gX_aloadn dL_law_1016 rfl ?_
  refine gX_iloadn dL_law_1017 rfl ?_
  refine gX_iconst dL_law_1018 ⟨by decide, by decide⟩ ?_
  refine gX_iadd dL_law_1019 ⟨by omega, by omega⟩ ?_
  refine lwLd hE dL_law_1020 hL (by omega) (by omega) ?_
  refine gX_virt (J := iX11_parent) (av := [gi (sx xs (i + 1)), gi (sx xs (i + 2)), gi (sx xs (i + 3))]) (a := 0) (st := []) dL_law_1021 lkL_114 kX11_parent vX11_parent (lwFit (d := 40) (by decide) (by decide)) hG.2.1 rfl rfl (Nat.le_of_ble_eq_true rfl) (Nat.zero_le _) (Nat.zero_le _) rfl ?_
  refine c_parent (d := 34) hG hS (fun V1 hS1 hf1 => ?_)
  show gX l E _ 1024 [some (ga 2000010), some (ga 0), some (ga 775), some (gi i)] [gi (aParent S (sx xs (i + 1)) (sx xs (i + 2)) (sx xs (i + 3)))] (K, R, V1) _ _
  have hT1 := hT.cls hf1
  refine gX_aloadn dL_law_1024 rfl ?_
  refine gX_aloadn dL_law_1025 rfl ?_
  refine gX_iloadn dL_law_1026 rfl ?_
  refine gX_iconst dL_law_1027 ⟨by decide, by decide⟩ ?_
  refine gX_iadd dL_law_1028 ⟨by omega, by omega⟩ ?_
  refine lwLd hE dL_law_1029 hL (by omega) (by omega) ?_
  refine gX_aloadn dL_law_1030 rfl ?_
  refine gX_iloadn dL_law_1031 rfl ?_
  refine gX_iconst dL_law_1032 ⟨by decide, by decide⟩ ?_
  refine gX_iadd dL_law_1033 ⟨by omega, by omega⟩ ?_
  refine lwLd hE dL_law_1034 hL (by omega) (by omega) ?_
  refine gX_aloadn dL_law_1035 rfl ?_
  refine gX_iloadn dL_law_1036 rfl ?_
  refine gX_iconst dL_law_1037 ⟨by decide, by decide⟩ ?_
  refine gX_iadd dL_law_1038 ⟨by omega, by omega⟩ ?_
  refine lwLd hE dL_law_1039 hL (by omega) (by omega) ?_
  refine gX_virt (J := iX12_parent) (av := [gi (sx xs (i + 1)), gi (sx xs (i + 2)), gi (sx xs (i + 3))]) (a := 775) (st := [gi (aParent S (sx xs (i + 1)) (sx xs (i + 2)) (sx xs (i + 3)))]) dL_law_1040 lkL_117 kX12_parent vX12_parent (lwFit (d := 40) (by decide) (by decide)) hM.1 rfl rfl (Nat.le_of_ble_eq_true rfl) (Nat.zero_le _) (Nat.zero_le _) rfl ?_
  refine m_parent (d := 36) hM hT1 (sx_in _ _) (fun V2 q2 => ?_)
  show gX l E _ 1043 [some (ga 2000010), some (ga 0), some (ga 775), some (gi i)] [gi (aParent S (sx xs (i + 1)) (sx xs (i + 2)) (sx xs (i + 3))), gi (aParent S (sx xs (i + 1)) (sx xs (i + 2)) (sx xs (i + 3)))] (K, R, V2) _ _
  refine gX_icmpeq (tgt := 1192) dL_law_1043 (by decide) (fun w1 => ?_) (fun w1 => ?_)
  · refine gX_iinc dL_law_1192 rfl (show (3 : Nat) < 4 from by decide) ⟨by omega, by omega⟩ (ls2 := [some (ga 2000010), some (ga 0), some (ga 775), some (gi (i + 5))]) rfl ?_
    refine gX_goto (tgt := 18) dL_law_1195 (by decide) ?_
    rw [show i + 5 = i + 5 from rfl]
    exact hk V2 S _ _ (hS1.ref (fun a ha => q2.1 a (by omega))) (hT1.look q2) hI
  · first
    | exact absurd rfl (by assumption)
    | exact absurd (gcmp_s _) (by assumption)
    | (exfalso; omega)
set_option maxRecDepth 8000 in
theorem lwC24 (hE : lwE E b) (hL : L ≤ 2560) (hG : gbK K R 3 12 15 16 19 25 32 37) (hM : mdK K R) (hS : gbIs V S) (hT : mdIs V S) (hI : siS S) (h0 : 0 ≤ i) (h1 : i + 5 ≤ L) (hk : ∀ (V' : Int → Int → Int) (S' : gbS) (bc bs : Nat), gbIs V' S' → mdIs V' S' → siS S' → gX l E (lwF b L xs (gB E)) 18 [some (ga 2000010), some (ga 0), some (ga 775), some (gi (i + 5))] [] (K, R, V') bc bs) : gX l E (lwF b L xs (gB E)) 1048 [some (ga 2000010), some (ga 0), some (ga 775), some (gi (i))] [] (K, R, V) bc bs := by
  have z1 := sx_in xs (i + 1)
  have z2 := sx_in xs (i + 2)
  have z3 := sx_in xs (i + 3)
  have z4 := sx_in xs (i + 4)
  refine gX_aloadn dL_law_1048 rfl ?_
  refine gX_aloadn dL_law_1049 rfl ?_
  refine gX_iloadn dL_law_1050 rfl ?_
  refine gX_iconst dL_law_1051 ⟨by decide, by decide⟩ ?_
  refine gX_iadd dL_law_1052 ⟨by omega, by omega⟩ ?_
  refine lwLd hE dL_law_1053 hL (by omega) (by omega) ?_
  refine gX_aloadn dL_law_1054 rfl ?_
  refine gX_iloadn dL_law_1055 rfl ?_
  refine gX_iconst dL_law_1056 ⟨by decide, by decide⟩ ?_
  refine gX_iadd dL_law_1057 ⟨by omega, by omega⟩ ?_
  refine lwLd hE dL_law_1058 hL (by omega) (by omega) ?_
  refine gX_aloadn dL_law_1059 rfl ?_
  refine gX_iloadn dL_law_1060 rfl ?_
  refine gX_iconst dL_law_1061 ⟨by decide, by decide⟩ ?_
  refine gX_iadd dL_law_1062 ⟨by omega, by omega⟩ ?_
  refine lwLd hE dL_law_1063 hL (by omega) (by omega) ?_
  refine gX_virt (J := iX11_tree) (av := [gi (sx xs (i + 1)), gi (sx xs (i + 2)), gi (sx xs (i + 3))]) (a := 0) (st := []) dL_law_1064 lkL_118 kX11_tree vX11_tree (lwFit (d := 40) (by decide) (by decide)) hG.2.1 rfl rfl (Nat.le_of_ble_eq_true rfl) (Nat.zero_le _) (Nat.zero_le _) rfl ?_
  refine c_tree (d := 34) hG hS (fun V1 hS1 hf1 => ?_)
  show gX l E _ 1067 [some (ga 2000010), some (ga 0), some (ga 775), some (gi i)] [gi (aTree S (sx xs (i + 1)) (sx xs (i + 2)) (sx xs (i + 3)))] (K, R, V1) _ _
  have hT1 := hT.cls hf1
  refine gX_aloadn dL_law_1067 rfl ?_
  refine gX_aloadn dL_law_1068 rfl ?_
  refine gX_iloadn dL_law_1069 rfl ?_
  refine gX_iconst dL_law_1070 ⟨by decide, by decide⟩ ?_
  refine gX_iadd dL_law_1071 ⟨by omega, by omega⟩ ?_
  refine lwLd hE dL_law_1072 hL (by omega) (by omega) ?_
  refine gX_aloadn dL_law_1073 rfl ?_
  refine gX_iloadn dL_law_1074 rfl ?_
  refine gX_iconst dL_law_1075 ⟨by decide, by decide⟩ ?_
  refine gX_iadd dL_law_1076 ⟨by omega, by omega⟩ ?_
  refine lwLd hE dL_law_1077 hL (by omega) (by omega) ?_
  refine gX_aloadn dL_law_1078 rfl ?_
  refine gX_iloadn dL_law_1079 rfl ?_
  refine gX_iconst dL_law_1080 ⟨by decide, by decide⟩ ?_
  refine gX_iadd dL_law_1081 ⟨by omega, by omega⟩ ?_
  refine lwLd hE dL_law_1082 hL (by omega) (by omega) ?_
  refine gX_virt (J := iX12_tree) (av := [gi (sx xs (i + 1)), gi (sx xs (i + 2)), gi (sx xs (i + 3))]) (a := 775) (st := [gi (aTree S (sx xs (i + 1)) (sx xs (i + 2)) (sx xs (i + 3)))]) dL_law_1083 lkL_121 kX12_tree vX12_tree (lwFit (d := 40) (by decide) (by decide)) hM.1 rfl rfl (Nat.le_of_ble_eq_true rfl) (Nat.zero_le _) (Nat.zero_le _) rfl ?_
  refine m_tree (d := 36) hM hT1 (sx_in _ _) (fun V2 q2 => ?_)
  show gX l E _ 1086 [some (ga 2000010), some (ga 0), some (ga 775), some (gi i)] [gi (aTree S (sx xs (i + 1)) (sx xs (i + 2)) (sx xs (i + 3))), gi (aTree S (sx xs (i + 1)) (sx xs (i + 2)) (sx xs (i + 3)))] (K, R, V2) _ _
  refine gX_icmpeq (tgt := 1192) dL_law_1086 (by decide) (fun w1 => ?_) (fun w1 => ?_)
  · refine gX_iinc dL_law_1192 rfl (show (3 : Nat) < 4 from by decide) ⟨by omega, by omega⟩ (ls2 := [some (ga 2000010), some (ga 0), some (ga 775), some (gi (i + 5))]) rfl ?_
    refine gX_goto (tgt := 18) dL_law_1195 (by decide) ?_
    rw [show i + 5 = i + 5 from rfl]
    exact hk V2 S _ _ (hS1.ref (fun a ha => q2.1 a (by omega))) (hT1.look q2) hI
  · first
    | exact absurd rfl (by assumption)
    | exact absurd (gcmp_s _) (by assumption)
    | (exfalso; omega)
set_option maxRecDepth 8000 in
theorem lwC25 (hE : lwE E b) (hL : L ≤ 2560) (hG : gbK K R 3 12 15 16 19 25 32 37) (hM : mdK K R) (hS : gbIs V S) (hT : mdIs V S) (hI : siS S) (h0 : 0 ≤ i) (h1 : i + 5 ≤ L) (hk : ∀ (V' : Int → Int → Int) (S' : gbS) (bc bs : Nat), gbIs V' S' → mdIs V' S' → siS S' → gX l E (lwF b L xs (gB E)) 18 [some (ga 2000010), some (ga 0), some (ga 775), some (gi (i + 5))] [] (K, R, V') bc bs) : gX l E (lwF b L xs (gB E)) 1091 [some (ga 2000010), some (ga 0), some (ga 775), some (gi (i))] [] (K, R, V) bc bs := by
  have z1 := sx_in xs (i + 1)
  have z2 := sx_in xs (i + 2)
  have z3 := sx_in xs (i + 3)
  have z4 := sx_in xs (i + 4)
  have za := hI.any hT (sx xs (i + 1))
  refine gX_aloadn dL_law_1091 rfl ?_
  refine gX_aloadn dL_law_1092 rfl ?_
  refine gX_iloadn dL_law_1093 rfl ?_
  refine gX_iconst dL_law_1094 ⟨by decide, by decide⟩ ?_
  refine gX_iadd dL_law_1095 ⟨by omega, by omega⟩ ?_
  refine lwLd hE dL_law_1096 hL (by omega) (by omega) ?_
  refine gX_aloadn dL_law_1097 rfl ?_
  refine gX_iloadn dL_law_1098 rfl ?_
  refine gX_iconst dL_law_1099 ⟨by decide, by decide⟩ ?_
  refine gX_iadd dL_law_1100 ⟨by omega, by omega⟩ ?_
  refine lwLd hE dL_law_1101 hL (by omega) (by omega) ?_
  refine gX_virt (J := iX11_explained) (av := [gi (sx xs (i + 1)), gi (sx xs (i + 2))]) (a := 0) (st := []) dL_law_1102 lkL_122 kX11_explained vX11_explained (lwFit (d := 40) (by decide) (by decide)) hG.2.1 rfl rfl (Nat.le_of_ble_eq_true rfl) (Nat.zero_le _) (Nat.zero_le _) rfl ?_
  refine c_explained (d := 36) hG hS za.2.1 (fun V1 hS1 hf1 => ?_)
  show gX l E _ 1105 [some (ga 2000010), some (ga 0), some (ga 775), some (gi i)] [gl (aExpl S (sx xs (i + 1)) (sx xs (i + 2)))] (K, R, V1) _ _
  have hT1 := hT.cls hf1
  refine gX_aloadn dL_law_1105 rfl ?_
  refine gX_aloadn dL_law_1106 rfl ?_
  refine gX_iloadn dL_law_1107 rfl ?_
  refine gX_iconst dL_law_1108 ⟨by decide, by decide⟩ ?_
  refine gX_iadd dL_law_1109 ⟨by omega, by omega⟩ ?_
  refine lwLd hE dL_law_1110 hL (by omega) (by omega) ?_
  refine gX_aloadn dL_law_1111 rfl ?_
  refine gX_iloadn dL_law_1112 rfl ?_
  refine gX_iconst dL_law_1113 ⟨by decide, by decide⟩ ?_
  refine gX_iadd dL_law_1114 ⟨by omega, by omega⟩ ?_
  refine lwLd hE dL_law_1115 hL (by omega) (by omega) ?_
  refine gX_virt (J := iX12_explained) (av := [gi (sx xs (i + 1)), gi (sx xs (i + 2))]) (a := 775) (st := [gl (aExpl S (sx xs (i + 1)) (sx xs (i + 2)))]) dL_law_1116 lkL_126 kX12_explained vX12_explained (lwFit (d := 40) (by decide) (by decide)) hM.1 rfl rfl (Nat.le_of_ble_eq_true rfl) (Nat.zero_le _) (Nat.zero_le _) rfl ?_
  refine m_explained (d := 36) hM hT1 (fun b b0 b1 => (hI.1 b b0 b1).1) (fun V2 q2 => ?_)
  show gX l E _ 1119 [some (ga 2000010), some (ga 0), some (ga 775), some (gi i)] [gl (aExpl S (sx xs (i + 1)) (sx xs (i + 2))), gl (aExpl S (sx xs (i + 1)) (sx xs (i + 2)))] (K, R, V2) _ _
  refine gX_lcmp dL_law_1119 ?_
  refine gX_ifeq (tgt := 1192) dL_law_1120 (by decide) (fun w1 => ?_) (fun w1 => ?_)
  · refine gX_iinc dL_law_1192 rfl (show (3 : Nat) < 4 from by decide) ⟨by omega, by omega⟩ (ls2 := [some (ga 2000010), some (ga 0), some (ga 775), some (gi (i + 5))]) rfl ?_
    refine gX_goto (tgt := 18) dL_law_1195 (by decide) ?_
    rw [show i + 5 = i + 5 from rfl]
    exact hk V2 S _ _ (hS1.ref (fun a ha => q2.1 a (by omega))) (hT1.look q2) hI
  · first
    | exact absurd rfl (by assumption)
    | exact absurd (gcmp_s _) (by assumption)
    | (exfalso; omega)
set_option maxRecDepth 8000 in
theorem lwC26 (hE : lwE E b) (hL : L ≤ 2560) (hG : gbK K R 3 12 15 16 19 25 32 37) (hM : mdK K R) (hS : gbIs V S) (hT : mdIs V S) (hI : siS S) (h0 : 0 ≤ i) (h1 : i + 5 ≤ L) (hk : ∀ (V' : Int → Int → Int) (S' : gbS) (bc bs : Nat), gbIs V' S' → mdIs V' S' → siS S' → gX l E (lwF b L xs (gB E)) 18 [some (ga 2000010), some (ga 0), some (ga 775), some (gi (i + 5))] [] (K, R, V') bc bs) : gX l E (lwF b L xs (gB E)) 1125 [some (ga 2000010), some (ga 0), some (ga 775), some (gi (i))] [] (K, R, V) bc bs := by
  have z1 := sx_in xs (i + 1)
  have z2 := sx_in xs (i + 2)
  have z3 := sx_in xs (i + 3)
  have z4 := sx_in xs (i + 4)
  have za := hI.any hT (sx xs (i + 1))
  refine gX_aloadn dL_law_1125 rfl ?_
  refine gX_aloadn dL_law_1126 rfl ?_
  refine gX_iloadn dL_law_1127 rfl ?_
  refine gX_iconst dL_law_1128 ⟨by decide, by decide⟩ ?_
  refine gX_iadd dL_law_1129 ⟨by omega, by omega⟩ ?_
  refine lwLd hE dL_law_1130 hL (by omega) (by omega) ?_
  refine gX_aloadn dL_law_1131 rfl ?_
  refine gX_iloadn dL_law_1132 rfl ?_
  refine gX_iconst dL_law_1133 ⟨by decide, by decide⟩ ?_
  refine gX_iadd dL_law_1134 ⟨by omega, by omega⟩ ?_
  refine lwLd hE dL_law_1135 hL (by omega) (by omega) ?_
  refine gX_aloadn dL_law_1136 rfl ?_
  refine gX_iloadn dL_law_1137 rfl ?_
  refine gX_iconst dL_law_1138 ⟨by decide, by decide⟩ ?_
  refine gX_iadd dL_law_1139 ⟨by omega, by omega⟩ ?_
  refine lwLd hE dL_law_1140 hL (by omega) (by omega) ?_
  refine gX_virt (J := iX11_steps) (av := [gi (sx xs (i + 1)), gi (sx xs (i + 2)), gi (sx xs (i + 3))]) (a := 0) (st := []) dL_law_1141 lkL_127 kX11_steps vX11_steps (lwFit (d := 40) (by decide) (by decide)) hG.2.1 rfl rfl (Nat.le_of_ble_eq_true rfl) (Nat.zero_le _) (Nat.zero_le _) rfl ?_
  refine c_gbSteps (d := 35) hG hS za.2.1 (fun V1 hS1 hf1 => ?_)
  show gX l E _ 1144 [some (ga 2000010), some (ga 0), some (ga 775), some (gi i)] [gi (aSteps S (sx xs (i + 1)) (sx xs (i + 2)) (sx xs (i + 3)))] (K, R, V1) _ _
  have hT1 := hT.cls hf1
  refine gX_aloadn dL_law_1144 rfl ?_
  refine gX_aloadn dL_law_1145 rfl ?_
  refine gX_iloadn dL_law_1146 rfl ?_
  refine gX_iconst dL_law_1147 ⟨by decide, by decide⟩ ?_
  refine gX_iadd dL_law_1148 ⟨by omega, by omega⟩ ?_
  refine lwLd hE dL_law_1149 hL (by omega) (by omega) ?_
  refine gX_aloadn dL_law_1150 rfl ?_
  refine gX_iloadn dL_law_1151 rfl ?_
  refine gX_iconst dL_law_1152 ⟨by decide, by decide⟩ ?_
  refine gX_iadd dL_law_1153 ⟨by omega, by omega⟩ ?_
  refine lwLd hE dL_law_1154 hL (by omega) (by omega) ?_
  refine gX_aloadn dL_law_1155 rfl ?_
  refine gX_iloadn dL_law_1156 rfl ?_
  refine gX_iconst dL_law_1157 ⟨by decide, by decide⟩ ?_
  refine gX_iadd dL_law_1158 ⟨by omega, by omega⟩ ?_
  refine lwLd hE dL_law_1159 hL (by omega) (by omega) ?_
  refine gX_virt (J := iX12_steps) (av := [gi (sx xs (i + 1)), gi (sx xs (i + 2)), gi (sx xs (i + 3))]) (a := 775) (st := [gi (aSteps S (sx xs (i + 1)) (sx xs (i + 2)) (sx xs (i + 3)))]) dL_law_1160 lkL_130 kX12_steps vX12_steps (lwFit (d := 40) (by decide) (by decide)) hM.1 rfl rfl (Nat.le_of_ble_eq_true rfl) (Nat.zero_le _) (Nat.zero_le _) rfl ?_
  refine m_steps (d := 35) hM hT1 (fun b b0 b1 => (hI.1 b b0 b1).1) (fun V2 q2 => ?_)
  show gX l E _ 1163 [some (ga 2000010), some (ga 0), some (ga 775), some (gi i)] [gi (aSteps S (sx xs (i + 1)) (sx xs (i + 2)) (sx xs (i + 3))), gi (aSteps S (sx xs (i + 1)) (sx xs (i + 2)) (sx xs (i + 3)))] (K, R, V2) _ _
  refine gX_icmpeq (tgt := 1192) dL_law_1163 (by decide) (fun w1 => ?_) (fun w1 => ?_)
  · refine gX_iinc dL_law_1192 rfl (show (3 : Nat) < 4 from by decide) ⟨by omega, by omega⟩ (ls2 := [some (ga 2000010), some (ga 0), some (ga 775), some (gi (i + 5))]) rfl ?_
    refine gX_goto (tgt := 18) dL_law_1195 (by decide) ?_
    rw [show i + 5 = i + 5 from rfl]
    exact hk V2 S _ _ (hS1.ref (fun a ha => q2.1 a (by omega))) (hT1.look q2) hI
  · first
    | exact absurd rfl (by assumption)
    | exact absurd (gcmp_s _) (by assumption)
    | (exfalso; omega)
set_option maxRecDepth 8000 in
theorem lwC27 (hE : lwE E b) (hL : L ≤ 2560) (hG : gbK K R 3 12 15 16 19 25 32 37) (hM : mdK K R) (hS : gbIs V S) (hT : mdIs V S) (hI : siS S) (h0 : 0 ≤ i) (h1 : i + 5 ≤ L) (hk : ∀ (V' : Int → Int → Int) (S' : gbS) (bc bs : Nat), gbIs V' S' → mdIs V' S' → siS S' → gX l E (lwF b L xs (gB E)) 18 [some (ga 2000010), some (ga 0), some (ga 775), some (gi (i + 5))] [] (K, R, V') bc bs) : gX l E (lwF b L xs (gB E)) 1168 [some (ga 2000010), some (ga 0), some (ga 775), some (gi (i))] [] (K, R, V) bc bs := by
  have z1 := sx_in xs (i + 1)
  have z2 := sx_in xs (i + 2)
  have z3 := sx_in xs (i + 3)
  have z4 := sx_in xs (i + 4)
  have za := hI.any hT (sx xs (i + 1))
  refine gX_aloadn dL_law_1168 rfl ?_
  refine gX_aloadn dL_law_1169 rfl ?_
  refine gX_iloadn dL_law_1170 rfl ?_
  refine gX_iconst dL_law_1171 ⟨by decide, by decide⟩ ?_
  refine gX_iadd dL_law_1172 ⟨by omega, by omega⟩ ?_
  refine lwLd hE dL_law_1173 hL (by omega) (by omega) ?_
  refine gX_virt (J := iX11_round) (av := [gi (sx xs (i + 1))]) (a := 0) (st := []) dL_law_1174 lkL_131 kX11_round vX11_round (lwFit (d := 40) (by decide) (by decide)) hG.2.1 rfl rfl (Nat.le_of_ble_eq_true rfl) (Nat.zero_le _) (Nat.zero_le _) rfl ?_
  refine c_round (d := 35) hG hS za.2.1 (fun V1 hS1 hf1 => ?_)
  show gX l E _ 1177 [some (ga 2000010), some (ga 0), some (ga 775), some (gi i)] [gl (aRound S (sx xs (i + 1)))] (K, R, V1) _ _
  have hT1 := hT.cls hf1
  refine gX_aloadn dL_law_1177 rfl ?_
  refine gX_aloadn dL_law_1178 rfl ?_
  refine gX_iloadn dL_law_1179 rfl ?_
  refine gX_iconst dL_law_1180 ⟨by decide, by decide⟩ ?_
  refine gX_iadd dL_law_1181 ⟨by omega, by omega⟩ ?_
  refine lwLd hE dL_law_1182 hL (by omega) (by omega) ?_
  refine gX_virt (J := iX12_round) (av := [gi (sx xs (i + 1))]) (a := 775) (st := [gl (aRound S (sx xs (i + 1)))]) dL_law_1183 lkL_135 kX12_round vX12_round (lwFit (d := 40) (by decide) (by decide)) hM.1 rfl rfl (Nat.le_of_ble_eq_true rfl) (Nat.zero_le _) (Nat.zero_le _) rfl ?_
  refine m_round (d := 35) hM hT1 (fun b b0 b1 => (hI.1 b b0 b1).1) (fun V2 q2 => ?_)
  show gX l E _ 1186 [some (ga 2000010), some (ga 0), some (ga 775), some (gi i)] [gl (aRound S (sx xs (i + 1))), gl (aRound S (sx xs (i + 1)))] (K, R, V2) _ _
  refine gX_lcmp dL_law_1186 ?_
  refine gX_ifeq (tgt := 1192) dL_law_1187 (by decide) (fun w1 => ?_) (fun w1 => ?_)
  · refine gX_iinc dL_law_1192 rfl (show (3 : Nat) < 4 from by decide) ⟨by omega, by omega⟩ (ls2 := [some (ga 2000010), some (ga 0), some (ga 775), some (gi (i + 5))]) rfl ?_
    refine gX_goto (tgt := 18) dL_law_1195 (by decide) ?_
    rw [show i + 5 = i + 5 from rfl]
    exact hk V2 S _ _ (hS1.ref (fun a ha => q2.1 a (by omega))) (hT1.look q2) hI
  · first
    | exact absurd rfl (by assumption)
    | exact absurd (gcmp_s _) (by assumption)
    | (exfalso; omega)
theorem alg_m1 (xs ys : List Int) (k : Int) : -1 ≤ lat (alg xs ys 0) k := by
  have := alg_lat (xs := xs) (ys := ys) (i := k)
  omega
set_option maxRecDepth 8000 in
theorem lwC16 (hE : lwE E b) (hL : L ≤ 2560) (hG : gbK K R 3 12 15 16 19 25 32 37) (hM : mdK K R) (hS : gbIs V S) (hT : mdIs V S) (hI : siS S) (h0 : 0 ≤ i) (h1 : i + 5 ≤ L) (hk : ∀ (V' : Int → Int → Int) (S' : gbS) (bc bs : Nat), gbIs V' S' → mdIs V' S' → siS S' → gX l E (lwF b L xs (gB E)) 18 [some (ga 2000010), some (ga 0), some (ga 775), some (gi (i + 5))] [] (K, R, V') bc bs) : gX l E (lwF b L xs (gB E)) 714 [some (ga 2000010), some (ga 0), some (ga 775), some (gi (i))] [] (K, R, V) bc bs := by
  have z1 := sx_in xs (i + 1)
  have z2 := sx_in xs (i + 2)
  have z3 := sx_in xs (i + 3)
  have z4 := sx_in xs (i + 4)
  refine gX_aloadn dL_law_714 rfl ?_
  refine gX_aloadn dL_law_715 rfl ?_
  refine gX_iloadn dL_law_716 rfl ?_
  refine gX_iconst dL_law_717 ⟨by decide, by decide⟩ ?_
  refine gX_iadd dL_law_718 ⟨by omega, by omega⟩ ?_
  refine lwLd hE dL_law_719 hL (by omega) (by omega) ?_
  refine gX_aloadn dL_law_720 rfl ?_
  refine gX_iloadn dL_law_721 rfl ?_
  refine gX_iconst dL_law_722 ⟨by decide, by decide⟩ ?_
  refine gX_iadd dL_law_723 ⟨by omega, by omega⟩ ?_
  refine lwLd hE dL_law_724 hL (by omega) (by omega) ?_
  refine gX_virt (J := iX11_slipped) (av := [gi (sx xs (i + 1)), gi (sx xs (i + 2))]) (a := 0) (st := []) dL_law_725 lkL_85 kX11_slipped vX11_slipped (lwFit (d := 40) (by decide) (by decide)) hG.2.1 rfl rfl (Nat.le_of_ble_eq_true rfl) (Nat.zero_le _) (Nat.zero_le _) rfl ?_
  refine c_slipped (d := 35) hG hS (fun hn => ?_) (fun q1 q2 So e1 e2 ha hb hsrc V1 hS1 hf1 => ?_)
  · show gX l E _ 728 [some (ga 2000010), some (ga 0), some (ga 775), some (gi i)] [gi (-1001)] (K, R, V) _ _
    refine gX_aloadn dL_law_728 rfl ?_
    refine gX_aloadn dL_law_729 rfl ?_
    refine gX_iloadn dL_law_730 rfl ?_
    refine gX_iconst dL_law_731 ⟨by decide, by decide⟩ ?_
    refine gX_iadd dL_law_732 ⟨by omega, by omega⟩ ?_
    refine lwLd hE dL_law_733 hL (by omega) (by omega) ?_
    refine gX_aloadn dL_law_734 rfl ?_
    refine gX_iloadn dL_law_735 rfl ?_
    refine gX_iconst dL_law_736 ⟨by decide, by decide⟩ ?_
    refine gX_iadd dL_law_737 ⟨by omega, by omega⟩ ?_
    refine lwLd hE dL_law_738 hL (by omega) (by omega) ?_
    refine gX_virt (J := iX12_slipped) (av := [gi (sx xs (i + 1)), gi (sx xs (i + 2))]) (a := 775) (st := [gi (-1001)]) dL_law_739 lkL_88 kX12_slipped vX12_slipped (lwFit (d := 40) (by decide) (by decide)) hM.1 rfl rfl (Nat.le_of_ble_eq_true rfl) (Nat.zero_le _) (Nat.zero_le _) rfl ?_
    refine m_slipped (d := 36) hM hT (fun b b0 b1 => (hI.1 b b0 b1).1) (fun _ => ?_) (fun ha hb => absurd ⟨ha, hb⟩ hn)
    show gX l E _ 742 [some (ga 2000010), some (ga 0), some (ga 775), some (gi i)] [gi (-1001), gi (-1001)] (K, R, V) _ _
    refine gX_icmpeq (tgt := 1192) dL_law_742 (by decide) (fun u1 => ?_) (fun u1 => ?_)
    · refine gX_iinc dL_law_1192 rfl (show (3 : Nat) < 4 from by decide) ⟨by omega, by omega⟩ (ls2 := [some (ga 2000010), some (ga 0), some (ga 775), some (gi (i + 5))]) rfl ?_
      refine gX_goto (tgt := 18) dL_law_1195 (by decide) ?_
      exact hk V S _ _ hS hT hI
    · exact absurd rfl (by assumption)
  · show gX l E _ 728 [some (ga 2000010), some (ga 0), some (ga 775), some (gi i)] [gi (slpF q1.2.1 (alg q1.1 q2.1 0) q2.1 So q1.2.1.length 0 0)] (K, R, V1) _ _
    have hT1 := hT.cls hf1
    have zeq : slpM (gbq S (sx xs (i + 1))).2.1 (alg (gbX S (sx xs (i + 1))) (gbX S (sx xs (i + 2))) 0) (gbX S (sx xs (i + 2))) (gbq S (sx xs (i + 1))).2.1.length 0 0 = slpF q1.2.1 (alg q1.1 q2.1 0) q2.1 So q1.2.1.length 0 0 := by
      subst e1
      subst e2
      exact slpM_F (fun q hq => (hI.1 _ ha.1 ha.2).1.1 q hq) (fun q hq => by obtain ⟨y, y0, y1, ey⟩ := gqI hq; rw [← ey]; exact ((hI.1 _ ha.1 ha.2).1.2.2.1.at y0 y1).1) hsrc (hI.1 _ ha.1 ha.2).1.2.2.2.2.2 (fun j => alg_m1 _ _ j) _ 0 0 (by omega) (by omega)
    refine gX_aloadn dL_law_728 rfl ?_
    refine gX_aloadn dL_law_729 rfl ?_
    refine gX_iloadn dL_law_730 rfl ?_
    refine gX_iconst dL_law_731 ⟨by decide, by decide⟩ ?_
    refine gX_iadd dL_law_732 ⟨by omega, by omega⟩ ?_
    refine lwLd hE dL_law_733 hL (by omega) (by omega) ?_
    refine gX_aloadn dL_law_734 rfl ?_
    refine gX_iloadn dL_law_735 rfl ?_
    refine gX_iconst dL_law_736 ⟨by decide, by decide⟩ ?_
    refine gX_iadd dL_law_737 ⟨by omega, by omega⟩ ?_
    refine lwLd hE dL_law_738 hL (by omega) (by omega) ?_
    refine gX_virt (J := iX12_slipped) (av := [gi (sx xs (i + 1)), gi (sx xs (i + 2))]) (a := 775) (st := [gi (slpF q1.2.1 (alg q1.1 q2.1 0) q2.1 So q1.2.1.length 0 0)]) dL_law_739 lkL_88 kX12_slipped vX12_slipped (lwFit (d := 40) (by decide) (by decide)) hM.1 rfl rfl (Nat.le_of_ble_eq_true rfl) (Nat.zero_le _) (Nat.zero_le _) rfl ?_
    refine m_slipped (d := 36) hM hT1 (fun b b0 b1 => (hI.1 b b0 b1).1) (fun hn => absurd ⟨ha, hb⟩ hn) (fun _ _ V2 r2 => ?_)
    show gX l E _ 742 [some (ga 2000010), some (ga 0), some (ga 775), some (gi i)] [gi (slpM (gbq S (sx xs (i + 1))).2.1 (alg (gbX S (sx xs (i + 1))) (gbX S (sx xs (i + 2))) 0) (gbX S (sx xs (i + 2))) (gbq S (sx xs (i + 1))).2.1.length 0 0), gi (slpF q1.2.1 (alg q1.1 q2.1 0) q2.1 So q1.2.1.length 0 0)] (K, R, V2) _ _
    refine gX_icmpeq (tgt := 1192) dL_law_742 (by decide) (fun v1 => ?_) (fun v1 => ?_)
    · refine gX_iinc dL_law_1192 rfl (show (3 : Nat) < 4 from by decide) ⟨by omega, by omega⟩ (ls2 := [some (ga 2000010), some (ga 0), some (ga 775), some (gi (i + 5))]) rfl ?_
      refine gX_goto (tgt := 18) dL_law_1195 (by decide) ?_
      exact hk V2 S _ _ (hS1.ref (fun a ha => r2.1 a (by omega))) (hT1.look r2) hI
    · exact absurd zeq.symm (by assumption)
theorem gbK.mo {K K' : List gK} {R R' : Int → Int → Int} (h : gbK K R 3 12 15 16 19 25 32 37) (he : kE K K') (hr : ∀ x, x < 775 → R' x = R x) : gbK K' R' 3 12 15 16 19 25 32 37 := by
  obtain ⟨h0, h1, h2, h3, h4, h5, h6, h7, h8, h9, h10, h11, h12, h13, h14⟩ := h
  refine ⟨h0, he _ _ h1, by rw [hr 0 (by omega)]; exact h2, he _ _ h3, he _ _ h4, h5.mo he (fun x _ _ => hr x (by omega)), h6.mo he (fun x _ _ => hr x (by omega)), he _ _ h7, h8.mo he (fun x _ _ => hr x (by omega)), h9.mo he (fun x _ _ => hr x (by omega)), h10.mo he (fun x _ _ => hr x (by omega)), h11.mo he (fun x _ _ => hr x (by omega)), h12.mo he (hr _ (by omega)), fun b b0 b1 => ?_, fun b b0 b1 => ?_⟩
  · rw [hr 1 (by omega)]
    exact ⟨(h13 b b0 b1).1, (h13 b b0 b1).2.mo he (fun x _ _ => hr x (by omega))⟩
  · rw [hr 2 (by omega)]
    exact ⟨(h14 b b0 b1).1, (h14 b b0 b1).2.mo he (fun x _ _ => hr x (by omega))⟩
set_option maxRecDepth 8000 in
theorem lw_loop (hE : lwE E b) (hL : L ≤ 2560) (hG : gbK K R 3 12 15 16 19 25 32 37) (hM : mdK K R) : ∀ (jj : Nat) (i : Int) (V : Int → Int → Int) (S : gbS) (bc bs : Nat), (L : Int) - i < (jj : Int) → 0 ≤ i → i ≤ L → gbIs V S → mdIs V S → siS S → gX l E (lwF b L xs (gB E)) 18 [some (ga 2000010), some (ga 0), some (ga 775), some (gi (i))] [] (K, R, V) bc bs := by
  intro jj
  induction jj with
  | zero =>
    intro i V S bc bs hj q0 q1 q2 q3 q4
    exfalso; omega
  | succ jj ih =>
    intro i V S bc bs hj q0 q1 q2 q3 q4
    refine gX_iloadn dL_law_18 rfl ?_
    refine gX_aloadn dL_law_19 rfl ?_
    refine lwLen hE dL_law_20 hL ?_
    refine gX_iconst dL_law_21 ⟨by decide, by decide⟩ ?_
    refine gX_isub dL_law_22 ⟨by omega, by omega⟩ ?_
    refine gX_icmpgt (tgt := 1198) dL_law_23 (by decide) (fun w1 => ?_) (fun w1 => ?_)
    · refine gX_iconst dL_law_1198 ⟨by decide, by decide⟩ ?_
      exact lwEnd dL_law_1199
    · refine gX_aloadn dL_law_26 rfl ?_
      refine gX_iloadn dL_law_27 rfl ?_
      refine lwLd hE dL_law_28 hL (by omega) (by omega) ?_
      refine gX_bipush dL_law_29 (by decide) ⟨by decide, by decide⟩ ?_
      refine gX_iand dL_law_31 ?_
      refine gX_tab (dt := 1192) [160, 223, 236, 259, 272, 305, 338, 397, 440, 473, 506, 539, 572, 615, 638, 671, 714, 747, 790, 843, 886, 929, 962, 1005, 1048, 1091, 1125, 1168] dL_law_32 (by decide) (by decide) (by decide) (fun w2 => ?_) (fun i9 t9 ht9 w2 => ?_)
      · refine gX_iinc dL_law_1192 rfl (show (3 : Nat) < 4 from by decide) ⟨by omega, by omega⟩ (ls2 := [some (ga 2000010), some (ga 0), some (ga 775), some (gi (i + 5))]) rfl ?_
        refine gX_goto (tgt := 18) dL_law_1195 (by decide) ?_
        exact ih (i + 5) V S _ _ (by omega) (by omega) (by omega) q2 q3 q4
      · match i9, ht9 with
        | 0, ht9 =>
          cases ht9
          exact lwC0 hE hL hG hM q2 q3 q4 q0 (by omega) (fun V9 S9 bc bs a1 a2 a3 => ih (i + 5) V9 S9 bc bs (by omega) (by omega) (by omega) a1 a2 a3)
        | 1, ht9 =>
          cases ht9
          exact lwC1 hE hL hG hM q2 q3 q4 q0 (by omega) (fun V9 S9 bc bs a1 a2 a3 => ih (i + 5) V9 S9 bc bs (by omega) (by omega) (by omega) a1 a2 a3)
        | 2, ht9 =>
          cases ht9
          exact lwC2 hE hL hG hM q2 q3 q4 q0 (by omega) (fun V9 S9 bc bs a1 a2 a3 => ih (i + 5) V9 S9 bc bs (by omega) (by omega) (by omega) a1 a2 a3)
        | 3, ht9 =>
          cases ht9
          exact lwC3 hE hL hG hM q2 q3 q4 q0 (by omega) (fun V9 S9 bc bs a1 a2 a3 => ih (i + 5) V9 S9 bc bs (by omega) (by omega) (by omega) a1 a2 a3)
        | 4, ht9 =>
          cases ht9
          exact lwC4 hE hL hG hM q2 q3 q4 q0 (by omega) (fun V9 S9 bc bs a1 a2 a3 => ih (i + 5) V9 S9 bc bs (by omega) (by omega) (by omega) a1 a2 a3)
        | 5, ht9 =>
          cases ht9
          exact lwC5 hE hL hG hM q2 q3 q4 q0 (by omega) (fun V9 S9 bc bs a1 a2 a3 => ih (i + 5) V9 S9 bc bs (by omega) (by omega) (by omega) a1 a2 a3)
        | 6, ht9 =>
          cases ht9
          exact lwC6 hE hL hG hM q2 q3 q4 q0 (by omega) (fun V9 S9 bc bs a1 a2 a3 => ih (i + 5) V9 S9 bc bs (by omega) (by omega) (by omega) a1 a2 a3)
        | 7, ht9 =>
          cases ht9
          exact lwC7 hE hL hG hM q2 q3 q4 q0 (by omega) (fun V9 S9 bc bs a1 a2 a3 => ih (i + 5) V9 S9 bc bs (by omega) (by omega) (by omega) a1 a2 a3)
        | 8, ht9 =>
          cases ht9
          exact lwC8 hE hL hG hM q2 q3 q4 q0 (by omega) (fun V9 S9 bc bs a1 a2 a3 => ih (i + 5) V9 S9 bc bs (by omega) (by omega) (by omega) a1 a2 a3)
        | 9, ht9 =>
          cases ht9
          exact lwC9 hE hL hG hM q2 q3 q4 q0 (by omega) (fun V9 S9 bc bs a1 a2 a3 => ih (i + 5) V9 S9 bc bs (by omega) (by omega) (by omega) a1 a2 a3)
        | 10, ht9 =>
          cases ht9
          exact lwC10 hE hL hG hM q2 q3 q4 q0 (by omega) (fun V9 S9 bc bs a1 a2 a3 => ih (i + 5) V9 S9 bc bs (by omega) (by omega) (by omega) a1 a2 a3)
        | 11, ht9 =>
          cases ht9
          exact lwC11 hE hL hG hM q2 q3 q4 q0 (by omega) (fun V9 S9 bc bs a1 a2 a3 => ih (i + 5) V9 S9 bc bs (by omega) (by omega) (by omega) a1 a2 a3)
        | 12, ht9 =>
          cases ht9
          exact lwC12 hE hL hG hM q2 q3 q4 q0 (by omega) (fun V9 S9 bc bs a1 a2 a3 => ih (i + 5) V9 S9 bc bs (by omega) (by omega) (by omega) a1 a2 a3)
        | 13, ht9 =>
          cases ht9
          exact lwC13 hE hL hG hM q2 q3 q4 q0 (by omega) (fun V9 S9 bc bs a1 a2 a3 => ih (i + 5) V9 S9 bc bs (by omega) (by omega) (by omega) a1 a2 a3)
        | 14, ht9 =>
          cases ht9
          exact lwC14 hE hL hG hM q2 q3 q4 q0 (by omega) (fun V9 S9 bc bs a1 a2 a3 => ih (i + 5) V9 S9 bc bs (by omega) (by omega) (by omega) a1 a2 a3)
        | 15, ht9 =>
          cases ht9
          exact lwC15 hE hL hG hM q2 q3 q4 q0 (by omega) (fun V9 S9 bc bs a1 a2 a3 => ih (i + 5) V9 S9 bc bs (by omega) (by omega) (by omega) a1 a2 a3)
        | 16, ht9 =>
          cases ht9
          exact lwC16 hE hL hG hM q2 q3 q4 q0 (by omega) (fun V9 S9 bc bs a1 a2 a3 => ih (i + 5) V9 S9 bc bs (by omega) (by omega) (by omega) a1 a2 a3)
        | 17, ht9 =>
          cases ht9
          exact lwC17 hE hL hG hM q2 q3 q4 q0 (by omega) (fun V9 S9 bc bs a1 a2 a3 => ih (i + 5) V9 S9 bc bs (by omega) (by omega) (by omega) a1 a2 a3)
        | 18, ht9 =>
          cases ht9
          exact lwC18 hE hL hG hM q2 q3 q4 q0 (by omega) (fun V9 S9 bc bs a1 a2 a3 => ih (i + 5) V9 S9 bc bs (by omega) (by omega) (by omega) a1 a2 a3)
        | 19, ht9 =>
          cases ht9
          exact lwC19 hE hL hG hM q2 q3 q4 q0 (by omega) (fun V9 S9 bc bs a1 a2 a3 => ih (i + 5) V9 S9 bc bs (by omega) (by omega) (by omega) a1 a2 a3)
        | 20, ht9 =>
          cases ht9
          exact lwC20 hE hL hG hM q2 q3 q4 q0 (by omega) (fun V9 S9 bc bs a1 a2 a3 => ih (i + 5) V9 S9 bc bs (by omega) (by omega) (by omega) a1 a2 a3)
        | 21, ht9 =>
          cases ht9
          exact lwC21 hE hL hG hM q2 q3 q4 q0 (by omega) (fun V9 S9 bc bs a1 a2 a3 => ih (i + 5) V9 S9 bc bs (by omega) (by omega) (by omega) a1 a2 a3)
        | 22, ht9 =>
          cases ht9
          exact lwC22 hE hL hG hM q2 q3 q4 q0 (by omega) (fun V9 S9 bc bs a1 a2 a3 => ih (i + 5) V9 S9 bc bs (by omega) (by omega) (by omega) a1 a2 a3)
        | 23, ht9 =>
          cases ht9
          exact lwC23 hE hL hG hM q2 q3 q4 q0 (by omega) (fun V9 S9 bc bs a1 a2 a3 => ih (i + 5) V9 S9 bc bs (by omega) (by omega) (by omega) a1 a2 a3)
        | 24, ht9 =>
          cases ht9
          exact lwC24 hE hL hG hM q2 q3 q4 q0 (by omega) (fun V9 S9 bc bs a1 a2 a3 => ih (i + 5) V9 S9 bc bs (by omega) (by omega) (by omega) a1 a2 a3)
        | 25, ht9 =>
          cases ht9
          exact lwC25 hE hL hG hM q2 q3 q4 q0 (by omega) (fun V9 S9 bc bs a1 a2 a3 => ih (i + 5) V9 S9 bc bs (by omega) (by omega) (by omega) a1 a2 a3)
        | 26, ht9 =>
          cases ht9
          exact lwC26 hE hL hG hM q2 q3 q4 q0 (by omega) (fun V9 S9 bc bs a1 a2 a3 => ih (i + 5) V9 S9 bc bs (by omega) (by omega) (by omega) a1 a2 a3)
        | 27, ht9 =>
          cases ht9
          exact lwC27 hE hL hG hM q2 q3 q4 q0 (by omega) (fun V9 S9 bc bs a1 a2 a3 => ih (i + 5) V9 S9 bc bs (by omega) (by omega) (by omega) a1 a2 a3)
        | k9 + 28, ht9 => exact absurd (List.getElem?_eq_some_iff.mp ht9).1 (by simp)
/-- the law from its start -/
theorem lw_gx {R0 V0 : Int → Int → Int} (hE : lwE E b) (hL : L ≤ 2560) : gX l E (lwF b L xs (gB E)) 0 [some (ga 2000010), none, none, none] [] ([], R0, V0) 600000 7302250 := by
  refine gX_new (ci := 10) (a := 0) dL_law_0 nwL_7 (show 0 + 1 < 1000000 by decide) rfl rfl (by decide) (by decide) ?_
  refine gX_dup dL_law_3 rfl ?_
  refine gX_init (J := iX11_init) (av := []) (a := 0) (st := [ga 0]) (d' := 40) dL_law_4 lkL_9 kX11_init rfl rfl vX11_init (lwFit (by decide) (by decide)) (by decide) rfl (by decide) (by decide) (by decide) rfl ?_
  refine c_newGB (d := 36) (O := 0) rfl rfl (fun K1 R1 V1 l1 g1 s1 => ?_)
  show gX l E _ 7 [some (ga 2000010), none, none, none] [ga 0] (K1, R1, V1) _ _
  refine gX_astoren dL_law_7 (show (1 : Nat) < 4 from by decide) (ls2 := [some (ga 2000010), some (ga 0), none, none]) rfl ?_
  refine gX_new (ci := 11) (a := 775) dL_law_8 nwL_10 (show K1.length + 1 < 1000000 by omega) (show (775 : Int) = ((K1.length : Nat) : Int) by omega) rfl (by decide) (by decide) ?_
  refine gX_dup dL_law_11 rfl ?_
  refine gX_init (J := iX12_init) (av := []) (a := 775) (st := [ga 775]) (d' := 40) dL_law_12 lkL_12 kX12_init rfl rfl vX12_init (lwFit (by decide) (by decide)) (by decide) rfl (by decide) (by decide) (by decide) rfl ?_
  refine m_new (d := 38) l1 (fun K2 R2 V2 l2 ke mk fr md => ?_)
  show gX l E _ 15 [some (ga 2000010), some (ga 0), none, none] [ga 775] (K2, R2, V2) _ _
  refine gX_astoren dL_law_15 (show (2 : Nat) < 4 from by decide) (ls2 := [some (ga 2000010), some (ga 0), some (ga 775), none]) rfl ?_
  refine gX_iconst dL_law_16 ⟨by decide, by decide⟩ ?_
  refine gX_istoren dL_law_17 (show (3 : Nat) < 4 from by decide) (ls2 := [some (ga 2000010), some (ga 0), some (ga 775), some (gi 0)]) rfl ?_
  exact lw_loop hE hL (g1.mo ke (fun x hx => (fr x hx).1)) mk (L + 1) 0 V2 gbE _ _ (by omega) (by omega) (by omega) (s1.ref (fun x hx => (fr x hx).2)) md siS.ini
end LAWC
