/-! String constants. Written by wip/whole/tools/mk_str.py. -/
def iJ0_checkIndex_df160 : gI := (yJ0_checkIndex_df160, (0, 0), (RJ0, cJ0_checkIndex_df160, 2, none, false))
theorem kJ0_checkIndex_df160 : gIok iJ0_checkIndex_df160 2 := ⟨by decide +kernel, (gSg3 51 (by decide +kernel) rfl), (gSg1 14 (by decide +kernel) rfl), ⟨by decide +kernel, by decide +kernel⟩, by decide +kernel, rfl, by decide +kernel⟩
theorem sJ0_checkIndex_df160 : Cond.static iJ0_checkIndex_df160.1 ∈ gWd := (gSg3 50 (by decide +kernel) rfl)
theorem dJ0_checkIndex_df160_0 : decode cJ0_checkIndex_df160 0 = .ok (.iload_n 0, 1) := by decide +kernel
theorem dJ0_checkIndex_df160_1 : decode cJ0_checkIndex_df160 1 = .ok (.iload_n 1, 1) := by decide +kernel
theorem dJ0_checkIndex_df160_2 : decode cJ0_checkIndex_df160 2 = .ok (.getstatic 1053, 3) := by decide +kernel
theorem dJ0_checkIndex_df160_5 : decode cJ0_checkIndex_df160 5 = .ok (.invokestatic 1059, 3) := by decide +kernel
theorem dJ0_checkIndex_df160_8 : decode cJ0_checkIndex_df160 8 = .ok (.pop, 1) := by decide +kernel
theorem dJ0_checkIndex_df160_9 : decode cJ0_checkIndex_df160 9 = .ok (.return_, 1) := by decide +kernel
def iJ3_checkIndex_8e157 : gI := (yJ3_checkIndex_8e157, (0, 0), (RJ3, cJ3_checkIndex_8e157, 3, (some .int), false))
theorem kJ3_checkIndex_8e157 : gIok iJ3_checkIndex_8e157 3 := ⟨by decide +kernel, (gSg3 56 (by decide +kernel) rfl), (gSg1 16 (by decide +kernel) rfl), ⟨by decide +kernel, by decide +kernel⟩, by decide +kernel, rfl, by decide +kernel⟩
theorem sJ3_checkIndex_8e157 : Cond.static iJ3_checkIndex_8e157.1 ∈ gWd := (gSg3 55 (by decide +kernel) rfl)
theorem dJ3_checkIndex_8e157_0 : decode cJ3_checkIndex_8e157 0 = .ok (.iload_n 0, 1) := by decide +kernel
theorem dJ3_checkIndex_8e157_1 : decode cJ3_checkIndex_8e157 1 = .ok (.ifCond .lt 8, 3) := by decide +kernel
theorem dJ3_checkIndex_8e157_4 : decode cJ3_checkIndex_8e157 4 = .ok (.iload_n 0, 1) := by decide +kernel
theorem dJ3_checkIndex_8e157_5 : decode cJ3_checkIndex_8e157 5 = .ok (.iload_n 1, 1) := by decide +kernel
theorem dJ3_checkIndex_8e157_6 : decode cJ3_checkIndex_8e157 6 = .ok (.if_icmp .lt 10, 3) := by decide +kernel
theorem dJ3_checkIndex_8e157_16 : decode cJ3_checkIndex_8e157 16 = .ok (.iload_n 0, 1) := by decide +kernel
theorem dJ3_checkIndex_8e157_17 : decode cJ3_checkIndex_8e157 17 = .ok (.ireturn, 1) := by decide +kernel
theorem lkJ1_9 : gLk RJ1 9 yJ0_checkIndex_df160 := Or.inl (gSg3 49 (by decide +kernel) rfl)
theorem lkJ0_1059 : gLk RJ0 1059 yJ3_checkIndex_8e157 := Or.inl (gSg3 54 (by decide +kernel) rfl)
theorem slJ0_9 : Cond.fieldLink RJ0 9 "java/lang/String" "value" "[B" ∈ gWd := (gSg7 223 (by decide +kernel) rfl)
theorem slJ0_15 : Cond.fieldLink RJ0 15 "java/lang/String" "coder" "B" ∈ gWd := (gSg7 224 (by decide +kernel) rfl)
theorem slJ0_38 : Cond.fieldLink RJ0 38 "java/lang/String" "COMPACT_STRINGS" "Z" ∈ gWd := (gSg3 36 (by decide +kernel) rfl)
theorem slJ0_1053 : Cond.fieldLink RJ0 1053 "jdk/internal/util/Preconditions" "SIOOBE_FORMATTER" "Ljava/util/function/BiFunction;" ∈ gWd := (gSg3 52 (by decide +kernel) rfl)
def sLn (i : Nat) : Nat := gLen.getD i 0
def sCh (i k : Nat) : Int := ((gByt.getD i []).getD k 0).toInt
theorem sLn_bd (i : Nat) (hi : i < 9) : 1 ≤ sLn i ∧ sLn i ≤ 7 := by
  match i, hi with
  | 0, _ => decide | 1, _ => decide | 2, _ => decide | 3, _ => decide | 4, _ => decide | 5, _ => decide | 6, _ => decide | 7, _ => decide | 8, _ => decide
def gi2c (x : Int) : Int := (((Int32.ofInt x).toUInt32 % 65536).toInt32).toInt
theorem sCh_ok : ∀ i : Fin 9, ∀ k : Fin 8, gand (sCh i k) 255 = sCh i k ∧ gi2c (sCh i k) = sCh i k ∧ 0 ≤ sCh i k ∧ sCh i k ≤ 255 ∧ narrow .char (.int (Int32.ofInt (sCh i k))) = .int (Int32.ofInt (sCh i k)) := by decide +kernel
section STR
variable {l : Launch} {E : gE} {F : gF} {pc : Nat} {ls : gL} {st : List gV} {bc bs : Nat} {m : gM} {d : Nat} {I : gI} {Q : gQ} {K : List gK} {R V : Int → Int → Int}
theorem gad_s {E : gE} {i : Nat} (hi : i < 9) : gad E (1000000 + (i : Int)) = E.2.2.2.2.1 i := by
  unfold gad; rw [if_neg (by omega), if_pos (by omega), show (1000000 + (i : Int)).toNat - 1000000 = i by omega]
theorem gad_v {E : gE} {i : Nat} (hi : i < 10) : gad E (2000000 + (i : Int)) = E.2.2.2.2.2 i := by
  unfold gad; rw [if_neg (by omega), if_neg (by omega), show (2000000 + (i : Int)).toNat - 2000000 = i by omega]
theorem gX_sval {i : Nat} (hd : decode F.1.2.1 pc = .ok (.getfield 9, 3)) (ho : F.1.1 = RJ0) (hi : i < 9) (kk : gX l E F (pc + 3) ls (ga (2000000 + (i : Int)) :: st) m bc bs) : gX l E F pc ls (ga (1000000 + (i : Int)) :: st) m bc bs := by
  intro p e s mm args below meth c H locs lsM cells slots hc hH hS hL hst h1 h2
  rw [List.map_cons, gv_a (by omega), gad_s hi]
  refine vk_getf hc.1 hc.2.1 (own := RJ0) ((hc.2.2.2.2.2.2.2.2.1.2.2.1.1.1 i hi).2.2.1) hS (by rw [← ho]; exact hc.2.2.2.2.1) (hc.2.2.2.2.2.1 _ slJ0_9) (fun _ hx => hx) hd ?_
  have h := kk p e s mm args below meth c H locs lsM cells slots hc hH hS hL (gst_cons (v := ga (2000000 + (i : Int))) trivial (gst_tl hst)) h1 h2
  rw [List.map_cons, gv_a (by omega), gad_v (by omega)] at h
  exact h
theorem gX_scod {i : Nat} (hd : decode F.1.2.1 pc = .ok (.getfield 15, 3)) (ho : F.1.1 = RJ0) (hi : i < 9) (kk : gX l E F (pc + 3) ls (gi 0 :: st) m bc bs) : gX l E F pc ls (ga (1000000 + (i : Int)) :: st) m bc bs := by
  intro p e s mm args below meth c H locs lsM cells slots hc hH hS hL hst h1 h2
  rw [List.map_cons, gv_a (by omega), gad_s hi]
  refine vk_getf hc.1 hc.2.1 (own := RJ0) ((hc.2.2.2.2.2.2.2.2.1.2.2.1.1.1 i hi).2.1) hS (by rw [← ho]; exact hc.2.2.2.2.1) (hc.2.2.2.2.2.1 _ slJ0_15) (fun _ hx => hx) hd ?_
  exact kk p e s mm args below meth c H locs lsM cells slots hc hH hS hL (gst_cons (v := gi 0) ⟨by decide, by decide⟩ (gst_tl hst)) h1 h2
theorem gX_scmp (hd : decode F.1.2.1 pc = .ok (.getstatic 38, 3)) (ho : F.1.1 = RJ0) (kk : gX l E F (pc + 3) ls (gi 1 :: st) m bc bs) : gX l E F pc ls st m bc bs := by
  intro p e s mm args below meth c H locs lsM cells slots hc hH hS hL hst h1 h2
  refine va_gets hc.1 hc.2.1 (own := RJ0) (hc.2.2.2.2.2.2.2.2.1.2.2.1.2.2.1) hS (by rw [← ho]; exact hc.2.2.2.2.1) (hc.2.2.2.2.2.1 _ slJ0_38) (fun _ hx => hx) hd ?_
  exact kk p e s mm args below meth c H locs lsM cells slots hc hH hS hL (gst_cons (v := gi 1) ⟨by decide, by decide⟩ hst) h1 h2
theorem gX_sfmt (hd : decode F.1.2.1 pc = .ok (.getstatic 1053, 3)) (ho : F.1.1 = RJ0) (kk : ∀ a : Int, gX l E F (pc + 3) ls (ga a :: st) m bc bs) : gX l E F pc ls st m bc bs := by
  intro p e s mm args below meth c H locs lsM cells slots hc hH hS hL hst h1 h2
  rcases hc.2.2.2.2.2.2.2.2.1.2.2.1.2.2.2 with hz | hz
  · refine va_gets hc.1 hc.2.1 (own := RJ0) hz hS (by rw [← ho]; exact hc.2.2.2.2.1) (hc.2.2.2.2.2.1 _ slJ0_1053) (fun _ hx => hx) hd ?_
    have h := kk (-1) p e s mm args below meth c H locs lsM cells slots hc hH hS hL (gst_cons (v := ga (-1)) trivial hst) h1 h2
    rw [List.map_cons, gv_n (by omega)] at h
    exact h
  · refine va_gets hc.1 hc.2.1 (own := RJ0) hz hS (by rw [← ho]; exact hc.2.2.2.2.1) (hc.2.2.2.2.2.1 _ slJ0_1053) (fun _ hx => hx) hd ?_
    have h := kk (2000000 + ((9 : Nat) : Int)) p e s mm args below meth c H locs lsM cells slots hc hH hS hL (gst_cons (v := ga (2000000 + ((9 : Nat) : Int))) trivial hst) h1 h2
    rw [List.map_cons, gv_a (by omega), gad_v (by omega)] at h
    exact h
theorem gX_slen {i : Nat} (hd : decode F.1.2.1 pc = .ok (.arraylength, 1)) (hi : i < 9) (kk : gX l E F (pc + 1) ls (gi (sLn i) :: st) m bc bs) : gX l E F pc ls (ga (2000000 + (i : Int)) :: st) m bc bs := by
  intro p e s mm args below meth c H locs lsM cells slots hc hH hS hL hst h1 h2
  have hb := sLn_bd i hi
  rw [List.map_cons, gv_a (by omega), gad_v (by omega)]
  refine va_tlen hc.1 hc.2.1 ((hc.2.2.2.2.2.2.2.2.1.2.2.1.1.1 i hi).2.2.2) hS (v := Int32.ofInt (sLn i)) ?_ hd ?_
  · rfl
  · exact kk p e s mm args below meth c H locs lsM cells slots hc hH hS hL (gst_cons (v := gi (sLn i)) ⟨by omega, by omega⟩ (gst_tl hst)) h1 h2
theorem gX_sbal {i k : Nat} (hd : decode F.1.2.1 pc = .ok (.baload, 1)) (hi : i < 9) (hk : k < sLn i) (kk : gX l E F (pc + 1) ls (gi (sCh i k) :: st) m bc bs) : gX l E F pc ls (gi k :: ga (2000000 + (i : Int)) :: st) m bc bs := by
  intro p e s mm args below meth c H locs lsM cells slots hc hH hS hL hst h1 h2
  have hb := sLn_bd i hi
  have hii : in32 (k : Int) := gst_hd hst
  rw [List.map_cons, List.map_cons, gv_a (by omega), gad_v (by omega)]
  refine va_tb hc.1 hc.2.1 ((hc.2.2.2.2.2.2.2.2.1.2.2.1.1.1 i hi).2.2.2) hS (i32_in hii (by omega) (by show (k : Int) < ((sLn i : Nat) : Int); omega)) (v := .int (Int32.ofInt (sCh i k))) ?_ hd ?_
  · rw [i32_clamp hii]
    unfold sCh
    rw [Int.toNat_natCast, i32_ofToInt]
  · exact kk p e s mm args below meth c H locs lsM cells slots hc hH hS hL (gst_cons (v := gi (sCh i k)) (in32_toInt _) (gst_tl (gst_tl hst))) h1 h2
theorem gX_i2c {x : Int} (hd : decode F.1.2.1 pc = .ok (.i2c, 1)) (kk : gX l E F (pc + 1) ls (gi (gi2c x) :: st) m bc bs) : gX l E F pc ls (gi x :: st) m bc bs := by
  intro p e s mm args below meth c H locs lsM cells slots hc hH hS hL hst h1 h2
  refine lv_i2c hc.1 hc.2.1 hd rfl ?_
  have h := kk p e s mm args below meth c H locs lsM cells slots hc hH hS hL (gst_cons (v := gi (gi2c x)) (in32_toInt _) (gst_tl hst)) h1 h2
  have e9 : gv E (gi (gi2c x)) = .int (((Int32.ofInt x).toUInt32 % 65536).toInt32) := by
    show Value.int (Int32.ofInt (gi2c x)) = _
    unfold gi2c
    rw [i32_ofToInt]
  rw [List.map_cons, e9] at h
  exact h
theorem gX_nret {x : Int} {ty : FieldType} (hd : decode (gFm E d I Q).1.2.1 pc = .ok (.ireturn, 1)) (hr : I.2.2.2.2.2.1 = some ty) (hn : narrow ty (.int (Int32.ofInt x)) = .int (Int32.ofInt x)) (hQ : Q (some (gi x)) m) : gX l E (gFm E d I Q) pc ls [gi x] m bc bs := by
  intro p e s mm args below meth c H locs lsM cells slots hc hH hS hL hst h1 h2
  refine W.widen (k := I.2.1.1) (n := I.2.1.2) (by have : cells + bc ≤ I.2.1.1 := h1; omega) (by have : slots + bs ≤ I.2.1.2 := h2; omega) ?_
  have hret : meth.sig.returnType = I.2.2.2.2.2.1 := hc.2.2.1
  exact W.zret (Qc := gQc E Q) hc.1 hc.2.1 (hret.trans hr) hn (fun t ht hW => ⟨some (gi x), m, rfl, fun v hv => by cases hv; exact gst_hd hst, hQ, by rw [ht]; exact hH, hS.F ht⟩) hS.2.2 hd hc.2.2.2.2.2.2.1
theorem gX_virS {idx n d' i : Nat} {J : gI} {av : List gV} {stk : List gV} (hd : decode F.1.2.1 pc = .ok (.invokevirtual idx, 3)) (hlk : Cond.methodLink F.1.1 idx J.1 ∈ gWd) (hI : gIok J n) (hvi : gVi J) (hfit : gFit F d' J) (hi : i < 9) (hcn : J.1.cls = "java/lang/String") (hn : av.length = n) (hs : (st.map gcat).sum ≤ 8) (hb1 : J.2.1.1 ≤ bc) (hb2 : J.2.1.2 ≤ bs) (hstk : stk = av.reverse ++ ga (1000000 + (i : Int)) :: st)
    (kk : gC l E d' J (ga (1000000 + (i : Int)) :: av) m (gNx l E F (pc + 3) ls st (bc - J.2.1.1) (bs - J.2.1.2))) : gX l E F pc ls stk m bc bs := by
  intro p e s mm args below meth c H locs lsM cells slots hc hH hS hL hst h1 h2
  subst hstk
  have hstT : ∀ v ∈ st, gok v := fun v hv => hst v (List.mem_append_right _ (List.mem_cons_of_mem _ hv))
  have hok : ∀ v ∈ ga (1000000 + (i : Int)) :: av, gok v := by
    intro v hv
    rcases List.mem_cons.mp hv with rfl | h
    · trivial
    · exact hst v (List.mem_append_left _ (List.mem_reverse.mpr h))
  have hrecv := vk_recv hc.2.2.2.2.2.2.2.2.1.2.2.1.1 hi hS
  rw [← gad_s hi, ← hcn] at hrecv
  have hts := hc.2.2.2.2.2.1
  have hmap : (av.reverse ++ ga (1000000 + (i : Int)) :: st).map (gv E) = (av.map (gv E)).reverse ++ .ref (gad E (1000000 + (i : Int))) :: st.map (gv E) := by
    rw [List.map_append, List.map_cons, List.map_reverse, gv_a (by omega)]
  rw [hmap]
  have hav : (Value.ref (gad E (1000000 + (i : Int))) :: av.map (gv E)) = (ga (1000000 + (i : Int)) :: av).map (gv E) := by rw [List.map_cons, gv_a (by omega)]
  have hpre : ∀ U : State, U.heap = H → s.WarmedH U.vm → gPc E (ga (1000000 + (i : Int)) :: av) m (Value.ref (gad E (1000000 + (i : Int))) :: av.map (gv E)).toArray U := fun U hU hW => ⟨by rw [hav], hc.2.2.2.2.2.2.2.2.1.warm hS hU hW, by rw [hU]; exact hH, hok⟩
  have hf : cells + J.2.1.1 ≤ F.2.1.cells ∧ slots + J.2.1.2 ≤ F.2.1.slots := ⟨by omega, by omega⟩
  refine gX_run rfl (va_runV (As := av.map (gv E)) (rest := st.map (gv E)) (b := gad E (1000000 + (i : Int))) (C := J.1.cls) (n := n) (Ts := gWd) ⟨hc.1, hc.2.1, hc.2.2.2.1, hc.2.2.2.2.1, hts⟩ kk ⟨⟨rfl, rfl, hfit.1, hfit.2, gws_words hts hI, List.mem_cons_self, hts _ hI.2.1, hts _ hI.2.2.1, hI.2.2.2.1, gparm hI, hts _ hlk⟩, hts _ hvi.1, hts _ hvi.2⟩ ⟨gPc_blind E _ m, hrecv, hpre⟩ rfl (by rw [List.length_map]; exact hn) hL.2.1 rfl (lv_room (gsum hs)) hd hf) hc hS hL hstT h1 h2 hb1 hb2

theorem mlJ0_335 : Cond.methodLink RJ0 335 yJ0_coder_7d493 ∈ gWd := (gSg3 32 (by decide +kernel) rfl)
theorem mlJ0_492 : Cond.methodLink RJ0 492 yJ0_isLatin1_aae02 ∈ gWd := (gSg3 42 (by decide +kernel) rfl)
theorem mlX8_54 : Cond.methodLink RX8 54 yJ0_length_8abf5 ∈ gWd := (gSg3 28 (by decide +kernel) rfl)
theorem mlX8_57 : Cond.methodLink RX8 57 yJ0_charAt_5068e ∈ gWd := (gSg3 38 (by decide +kernel) rfl)
theorem sLn_sh : ∀ i : Fin 9, gshr (sLn i) 0 = sLn i := by decide +kernel
theorem c_coder {i : Nat} (hi : i < 9) (hQ : Q (some (gi 0)) m) : gC l E (d + 1) iJ0_coder_7d493 [ga (1000000 + (i : Int))] m Q := by
  refine gC_of kJ0_coder_7d493 (ls := [some (ga (1000000 + (i : Int)))]) rfl (Nat.le_of_ble_eq_true rfl) ?_
  refine gX_scmp dJ0_coder_7d493_0 rfl ?_
  refine gX_ifeq (tgt := 13) dJ0_coder_7d493_3 (by decide) (fun h => absurd h (by decide)) (fun h => ?_)
  refine gX_aloadn dJ0_coder_7d493_6 rfl ?_
  refine gX_scod dJ0_coder_7d493_7 rfl hi ?_
  refine gX_goto (tgt := 14) dJ0_coder_7d493_10 (by decide) ?_
  exact gX_nret dJ0_coder_7d493_14 rfl rfl hQ
theorem c_latin1 {i : Nat} (hi : i < 9) (hQ : Q (some (gi 1)) m) : gC l E (d + 1) iJ0_isLatin1_aae02 [ga (1000000 + (i : Int))] m Q := by
  refine gC_of kJ0_isLatin1_aae02 (ls := [some (ga (1000000 + (i : Int)))]) rfl (Nat.le_of_ble_eq_true rfl) ?_
  refine gX_scmp dJ0_isLatin1_aae02_0 rfl ?_
  refine gX_ifeq (tgt := 17) dJ0_isLatin1_aae02_3 (by decide) (fun h => absurd h (by decide)) (fun h => ?_)
  refine gX_aloadn dJ0_isLatin1_aae02_6 rfl ?_
  refine gX_scod dJ0_isLatin1_aae02_7 rfl hi ?_
  refine gX_ifne (tgt := 17) dJ0_isLatin1_aae02_10 (by decide) (fun h => absurd rfl h) (fun h => ?_)
  refine gX_iconst dJ0_isLatin1_aae02_13 ⟨by decide, by decide⟩ ?_
  refine gX_goto (tgt := 18) dJ0_isLatin1_aae02_14 (by decide) ?_
  exact gX_iret dJ0_isLatin1_aae02_18 (Or.inr ⟨rfl, Or.inr rfl⟩) hQ
theorem c_sLength {i : Nat} (hi : i < 9) (hQ : Q (some (gi (sLn i))) m) : gC l E (d + 2) iJ0_length_8abf5 [ga (1000000 + (i : Int))] m Q := by
  refine gC_of kJ0_length_8abf5 (ls := [some (ga (1000000 + (i : Int)))]) rfl (Nat.le_of_ble_eq_true rfl) ?_
  refine gX_aloadn dJ0_length_8abf5_0 rfl ?_
  refine gX_sval dJ0_length_8abf5_1 rfl hi ?_
  refine gX_slen dJ0_length_8abf5_4 hi ?_
  refine gX_aloadn dJ0_length_8abf5_5 rfl ?_
  refine gX_virS (J := iJ0_coder_7d493) (i := i) (av := []) (st := [gi (sLn i)]) dJ0_length_8abf5_6 mlJ0_335 kJ0_coder_7d493 vJ0_coder_7d493 (gFit_m (by decide)) hi rfl rfl (Nat.le_of_ble_eq_true rfl) (Nat.zero_le _) (Nat.zero_le _) rfl ?_
  refine c_coder hi ?_
  show gX l E _ 9 [some (ga (1000000 + (i : Int)))] [gi 0, gi (sLn i)] m _ _
  refine gX_ishr dJ0_length_8abf5_9 ?_
  rw [sLn_sh ⟨i, hi⟩]
  exact gX_iret dJ0_length_8abf5_10 (Or.inl rfl) hQ
theorem c_chk3 {k n a : Int} (h0 : 0 ≤ k) (h1 : k < n) (hQ : Q (some (gi k)) m) : gC l E (d + 1) iJ3_checkIndex_8e157 [gi k, gi n, ga a] m Q := by
  refine gC_of kJ3_checkIndex_8e157 (ls := [some (gi k), some (gi n), some (ga a)]) rfl (Nat.le_of_ble_eq_true rfl) ?_
  refine gX_iloadn dJ3_checkIndex_8e157_0 rfl ?_
  refine gX_iflt (tgt := 9) dJ3_checkIndex_8e157_1 (by decide) (fun h => by exfalso; omega) (fun h => ?_)
  refine gX_iloadn dJ3_checkIndex_8e157_4 rfl ?_
  refine gX_iloadn dJ3_checkIndex_8e157_5 rfl ?_
  refine gX_icmplt (tgt := 16) dJ3_checkIndex_8e157_6 (by decide) (fun h => ?_) (fun h => by exfalso; omega)
  refine gX_iloadn dJ3_checkIndex_8e157_16 rfl ?_
  exact gX_iret dJ3_checkIndex_8e157_17 (Or.inl rfl) hQ
theorem c_chk {k n : Int} (h0 : 0 ≤ k) (h1 : k < n) (hQ : Q none m) : gC l E (d + 2) iJ0_checkIndex_df160 [gi k, gi n] m Q := by
  refine gC_of kJ0_checkIndex_df160 (ls := [some (gi k), some (gi n)]) rfl (Nat.le_of_ble_eq_true rfl) ?_
  refine gX_iloadn dJ0_checkIndex_df160_0 rfl ?_
  refine gX_iloadn dJ0_checkIndex_df160_1 rfl ?_
  refine gX_sfmt dJ0_checkIndex_df160_2 rfl (fun a => ?_)
  refine gX_stat (J := iJ3_checkIndex_8e157) (av := [gi k, gi n, ga a]) (st := []) dJ0_checkIndex_df160_5 lkJ0_1059 kJ3_checkIndex_8e157 sJ3_checkIndex_8e157 (gFit_m (by decide)) rfl (Nat.le_of_ble_eq_true rfl) (Nat.zero_le _) (Nat.zero_le _) rfl ?_
  refine c_chk3 h0 h1 ?_
  show gX l E _ 8 [some (gi k), some (gi n)] [gi k] m _ _
  refine gX_pop dJ0_checkIndex_df160_8 rfl ?_
  exact gX_vret dJ0_checkIndex_df160_9 rfl hQ
theorem c_l1char {i k : Nat} (hi : i < 9) (hk : k < sLn i) (hQ : Q (some (gi (sCh i k))) m) : gC l E (d + 3) iJ1_charAt_3b067 [ga (2000000 + (i : Int)), gi k] m Q := by
  have hb := sLn_bd i hi
  have ho := sCh_ok ⟨i, hi⟩ ⟨k, by omega⟩
  refine gC_of kJ1_charAt_3b067 (ls := [some (ga (2000000 + (i : Int))), some (gi k)]) rfl (Nat.le_of_ble_eq_true rfl) ?_
  refine gX_iloadn dJ1_charAt_3b067_0 rfl ?_
  refine gX_aloadn dJ1_charAt_3b067_1 rfl ?_
  refine gX_slen dJ1_charAt_3b067_2 hi ?_
  refine gX_stat (J := iJ0_checkIndex_df160) (av := [gi k, gi (sLn i)]) (st := []) dJ1_charAt_3b067_3 lkJ1_9 kJ0_checkIndex_df160 sJ0_checkIndex_df160 (gFit_m (by decide)) rfl (Nat.le_of_ble_eq_true rfl) (Nat.zero_le _) (Nat.zero_le _) rfl ?_
  refine c_chk (by omega) (by omega) ?_
  show gX l E _ 6 [some (ga (2000000 + (i : Int))), some (gi k)] [] m _ _
  refine gX_aloadn dJ1_charAt_3b067_6 rfl ?_
  refine gX_iloadn dJ1_charAt_3b067_7 rfl ?_
  refine gX_sbal dJ1_charAt_3b067_8 hi hk ?_
  refine gX_sipush dJ1_charAt_3b067_9 (by decide) ⟨by decide, by decide⟩ ?_
  refine gX_iand dJ1_charAt_3b067_12 ?_
  rw [ho.1]
  refine gX_i2c dJ1_charAt_3b067_13 ?_
  rw [ho.2.1]
  exact gX_nret dJ1_charAt_3b067_14 rfl ho.2.2.2.2 hQ
theorem c_sCharAt {i k : Nat} (hi : i < 9) (hk : k < sLn i) (hQ : Q (some (gi (sCh i k))) m) : gC l E (d + 4) iJ0_charAt_5068e [ga (1000000 + (i : Int)), gi k] m Q := by
  have hb := sLn_bd i hi
  have ho := sCh_ok ⟨i, hi⟩ ⟨k, by omega⟩
  refine gC_of kJ0_charAt_5068e (ls := [some (ga (1000000 + (i : Int))), some (gi k)]) rfl (Nat.le_of_ble_eq_true rfl) ?_
  refine gX_aloadn dJ0_charAt_5068e_0 rfl ?_
  refine gX_virS (J := iJ0_isLatin1_aae02) (i := i) (av := []) (st := []) dJ0_charAt_5068e_1 mlJ0_492 kJ0_isLatin1_aae02 vJ0_isLatin1_aae02 (gFit_m (by decide)) hi rfl rfl (Nat.le_of_ble_eq_true rfl) (Nat.zero_le _) (Nat.zero_le _) rfl ?_
  refine c_latin1 hi ?_
  show gX l E _ 4 [some (ga (1000000 + (i : Int))), some (gi k)] [gi 1] m _ _
  refine gX_ifeq (tgt := 16) dJ0_charAt_5068e_4 (by decide) (fun h => absurd h (by decide)) (fun h => ?_)
  refine gX_aloadn dJ0_charAt_5068e_7 rfl ?_
  refine gX_sval dJ0_charAt_5068e_8 rfl hi ?_
  refine gX_iloadn dJ0_charAt_5068e_11 rfl ?_
  refine gX_stat (J := iJ1_charAt_3b067) (av := [ga (2000000 + (i : Int)), gi k]) (st := []) dJ0_charAt_5068e_12 lkJ0_495 kJ1_charAt_3b067 sJ1_charAt_3b067 (gFit_m (by decide)) rfl (Nat.le_of_ble_eq_true rfl) (Nat.zero_le _) (Nat.zero_le _) rfl ?_
  refine c_l1char hi hk ?_
  show gX l E _ 15 [some (ga (1000000 + (i : Int))), some (gi k)] [gi (sCh i k)] m _ _
  exact gX_nret dJ0_charAt_5068e_15 rfl ho.2.2.2.2 hQ
end STR
