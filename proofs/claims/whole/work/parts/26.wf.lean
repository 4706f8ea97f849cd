/-! what the habits keep of a book -/
/-- a gloss but for its words -/
def skQ (q : gG) : Int × Int × Int × Int × Int × Nat := (q.1, q.2.1, q.2.2.1, q.2.2.2.1, q.2.2.2.2.1, q.2.2.2.2.2.length)
theorem skQ_of {p q : gG} (h : skQ p = skQ q) : p.1 = q.1 ∧ p.2.1 = q.2.1 ∧ p.2.2.1 = q.2.2.1 ∧ p.2.2.2.1 = q.2.2.2.1 ∧ p.2.2.2.2.1 = q.2.2.2.2.1 ∧ p.2.2.2.2.2.length = q.2.2.2.2.2.length := by
  unfold skQ at h
  simp only [Prod.mk.injEq] at h
  exact h
theorem onT_sk {p q : gG} (h : skQ p = skQ q) : onT p = onT q := by
  have e := skQ_of h
  unfold onT
  rw [e.2.1, e.2.2.2.2.1]
/-- glosses with the same spans, hosts and lengths of rows -/
def lk (gs gs' : List gG) : Prop := gs'.map skQ = gs.map skQ
theorem lk.len {gs gs' : List gG} (h : lk gs gs') : gs'.length = gs.length := by
  have := congrArg List.length h
  simpa using this
theorem lk.at {gs gs' : List gG} (h : lk gs gs') {k : Nat} {q : gG} (hk : gs'[k]? = some q) : ∃ p, gs[k]? = some p ∧ skQ q = skQ p := by
  have h1 : (gs'.map skQ)[k]? = (gs.map skQ)[k]? := by rw [h]
  rw [List.getElem?_map, List.getElem?_map, hk] at h1
  cases c : gs[k]? with
  | none => rw [c] at h1; cases h1
  | some p => rw [c] at h1; exact ⟨p, rfl, Option.some.inj h1⟩
theorem lk.mem {gs gs' : List gG} (h : lk gs gs') {q : gG} (hq : q ∈ gs') : ∃ p ∈ gs, skQ q = skQ p := by
  obtain ⟨k, hk⟩ := List.getElem?_of_mem hq
  obtain ⟨p, h1, h2⟩ := h.at hk
  exact ⟨p, List.mem_of_getElem? h1, h2⟩
theorem lk.spW {gs gs' : List gG} {tx tx' : List Int} (h : lk gs gs') (hl : tx'.length = tx.length) (hw : spW tx gs) : spW tx' gs' := by
  refine ⟨fun q hq ho => ?_, fun x hx y hy hxo hyo => ?_⟩
  · obtain ⟨p, hp, e⟩ := h.mem hq
    have e1 := skQ_of e
    have := hw.1 p hp (by rw [← onT_sk e]; exact ho)
    rw [hl]; omega
  · obtain ⟨p, hp, e⟩ := h.mem hx
    obtain ⟨r, hr, f⟩ := h.mem hy
    have e1 := skQ_of e
    have f1 := skQ_of f
    have := hw.2 p hp r hr (by rw [← onT_sk e]; exact hxo) (by rw [← onT_sk f]; exact hyo)
    omega
theorem lk.rwW {gs gs' : List gG} (h : lk gs gs') (hw : rwW gs) : rwW gs' := fun q hq => by
  obtain ⟨p, hp, e⟩ := h.mem hq
  have := hw p hp
  have e1 := skQ_of e
  omega
theorem lk.hoW {gs gs' : List gG} (h : lk gs gs') (hw : hoW gs) : hoW gs' := fun k q hk => by
  obtain ⟨p, hp, e⟩ := h.at hk
  have := hw k p hp
  have e1 := skQ_of e
  omega
theorem lk.gBd {gs gs' : List gG} {c : Int} (h : lk gs gs') (hw : gBd gs c) : gBd gs' c := fun q hq => by
  obtain ⟨p, hp, e⟩ := h.mem hq
  have := hw p hp
  have e1 := skQ_of e
  omega
theorem lk_set {gs : List gG} {k : Int} {q : gG} (h0 : 0 ≤ k) (h1 : k < gs.length) (he : skQ q = skQ (gq gs k)) : lk gs (gs.set k.toNat q) := by
  unfold lk
  rw [List.map_set, he]
  refine List.ext_getElem? fun j => ?_
  by_cases c : j = k.toNat
  · subst c
    rw [List.getElem?_set_self (by rw [List.length_map]; omega), List.getElem?_map]
    unfold gq
    rw [List.getD_eq_getElem?_getD, List.getElem?_eq_getElem (by omega : k.toNat < gs.length)]
    rfl
  · rw [List.getElem?_set_ne (Ne.symm c)]
theorem lk.trans {a b c : List gG} (h : lk a b) (h2 : lk b c) : lk a c := Eq.trans h2 h
theorem foG_lk {fr to fe : List Int} : ∀ (n : Nat) (g : Int) (t : fG), 0 ≤ g → g + n ≤ t.1.length → lk t.1 (foG fr to fe n g t).1
  | 0, _, _, _, _ => rfl
  | n + 1, g, t, h0, h1 => by
    have e : skQ (rwG (gq t.1 g) (foQ fr to fe t g).1) = skQ (gq t.1 g) := by
      have := (foR_len (fr := fr) (to := to) (fe := fe) (gq t.1 g).2.2.2.2.2.length 0 ((gq t.1 g).2.2.2.2.2, t.2)).1
      have z : (foQ fr to fe t g).1.length = (gq t.1 g).2.2.2.2.2.length := this
      unfold skQ rwG
      simp only [z]
    have s1 := lk_set h0 (by omega) e
    exact s1.trans (foG_lk n (g + 1) (t.1.set g.toNat (rwG (gq t.1 g) (foQ fr to fe t g).1), (foQ fr to fe t g).2) (by omega) (by show g + 1 + (n : Int) ≤ ((t.1.set g.toNat _).length : Int); rw [List.length_set]; omega))
theorem foS_lk (fr to fe : List Int) (s : cS) : lk s.2.1 (foS fr to fe s).2.1 := foG_lk s.2.1.length 0 (s.2.1, _) (by omega) (by show (0 : Int) + s.2.1.length ≤ s.2.1.length; omega)
theorem foS_tx (fr to fe : List Int) (s : cS) : (foS fr to fe s).1.length = s.1.length := (foR_len (fr := fr) (to := to) (fe := fe) s.1.length 0 _).1
theorem foG_B {fr to fe : List Int} (hl : fr.length ≤ 4) : ∀ (n : Nat) (g c : Int) (t : fG), 0 ≤ g → g + n ≤ t.1.length → (∀ q ∈ t.1, q.2.2.2.2.2.length ≤ 8) → foB ([], t.2) c → foB ([], (foG fr to fe n g t).2) (c + 32 * n)
  | 0, _, _, _, _, _, _, h => h.up (by omega)
  | n + 1, g, c, t, h0, h1, h8, h => by
    have h9 := h8 _ (gq_mem (gs := t.1) (g := g) h0 (by omega))
    have z := foR_B (to := to) (fe := fe) hl (gq t.1 g).2.2.2.2.2.length 0 c ((gq t.1 g).2.2.2.2.2, t.2) h
    have z2 : foB ([], (foQ fr to fe t g).2) _ := z
    have hz := (foR_len (fr := fr) (to := to) (fe := fe) (gq t.1 g).2.2.2.2.2.length 0 ((gq t.1 g).2.2.2.2.2, t.2)).1
    exact (foG_B hl n (g + 1) (c + 32) (t.1.set g.toNat (rwG (gq t.1 g) (foQ fr to fe t g).1), (foQ fr to fe t g).2) (by omega) (by show g + 1 + (n : Int) ≤ ((t.1.set g.toNat _).length : Int); rw [List.length_set]; omega) (fun q hq => by
      rcases mem_set hq with e | e
      · rw [e]; show (foQ fr to fe t g).1.length ≤ 8; exact Nat.le_trans (Nat.le_of_eq hz) h9
      · exact h8 q e) (z2.up (by omega))).up (by omega)
theorem foS_B {fr to fe : List Int} {s : cS} (hl : fr.length ≤ 4) (hx : s.1.length ≤ 40) (h20 : s.2.1.length ≤ 20) (h8 : ∀ q ∈ s.2.1, q.2.2.2.2.2.length ≤ 8) (hc : cBd s.2.2.1 0) (ht : cBd s.2.2.2 0) : cBd (foS fr to fe s).2.2.1 800 ∧ cBd (foS fr to fe s).2.2.2 800 := by
  have hB0 : foB (s.1, List.replicate fr.length 0, s.2.2.1, s.2.2.2) 0 := ⟨hc, ht, fun k => by have z := lat_rep fr.length k; show -1 ≤ lat (List.replicate fr.length 0) k ∧ lat (List.replicate fr.length 0) k ≤ 0; omega⟩
  have z := foR_B (to := to) (fe := fe) hl s.1.length 0 0 _ hB0
  have z2 : foB ([], (foA fr to fe s).2) _ := z
  have z3 := foG_B (to := to) (fe := fe) hl s.2.1.length 0 _ (s.2.1, (foA fr to fe s).2) (by omega) (by show (0 : Int) + s.2.1.length ≤ s.2.1.length; omega) h8 z2
  have z4 := z3.up (c2 := 800) (by omega)
  exact ⟨z4.1, z4.2.1⟩
/-- leaving out: what became of each gloss -/
theorem setG_at {gs : List gG} {g k : Nat} {q x : gG} (hg : g < gs.length) (h : (gs.set g q)[k]? = some x) : (k = g ∧ x = q) ∨ (k ≠ g ∧ gs[k]? = some x) := by
  by_cases c : k = g
  · subst c; rw [List.getElem?_set_self hg] at h; cases h; exact Or.inl ⟨rfl, rfl⟩
  · rw [List.getElem?_set_ne (Ne.symm c)] at h; exact Or.inr ⟨c, h⟩
theorem gq_nat {gs : List gG} {g : Nat} (h : g < gs.length) : gs[g]? = some (gq gs g) := by
  unfold gq
  rw [List.getD_eq_getElem?_getD, Int.toNat_natCast, List.getElem?_eq_getElem h]; rfl
theorem goL_lt : ∀ (n h : Nat) (gs : List gG) {k : Nat}, k < h → (goL gs n h)[k]? = gs[k]?
  | 0, _, _, _, _ => rfl
  | n + 1, h, gs, k, hk => by
    have e := goL_lt n (h + 1) (if 0 ≤ (gq gs h).2.1 ∧ (gq gs h).2.1 < gs.length ∧ (gq gs (gq gs h).2.1).2.2.2.2.1 = 1 then gs.set h (setGone (gq gs h)) else gs) (k := k) (by omega)
    refine Eq.trans e ?_
    split
    · exact List.getElem?_set_ne (by omega)
    · rfl
theorem away_self {gs : List gG} {g : Nat} {x : gG} (hg : g < gs.length) (h : (awayG gs g)[g]? = some x) : x.2.2.2.2.1 ≠ 0 := by
  unfold awayG at h
  rw [Int.toNat_natCast, goL_lt _ _ _ (Nat.lt_succ_self g), List.getElem?_set_self hg] at h
  cases h
  exact (by decide : (1 : Int) ≠ 0)
/-- x came of q, with the span moved if `m` -/
def cam (f t : Int) (m : Prop) (q x : gG) : Prop := x.1 = q.1 ∧ x.2.1 = q.2.1 ∧ x.2.2.2.2.2 = q.2.2.2.2.2 ∧ (q.2.2.2.2.1 ≠ 0 → x.2.2.2.2.1 ≠ 0) ∧ (onT x = 1 → (m ∧ x.2.2.1 = plc q.2.2.1 f t ∧ x.2.2.2.1 = plc (q.2.2.2.1 + 1) f t - 1 ∧ plc q.2.2.1 f t ≠ plc (q.2.2.2.1 + 1) f t) ∨ (¬ m ∧ x.2.2.1 = q.2.2.1 ∧ x.2.2.2.1 = q.2.2.2.1))
theorem cam.on {f t : Int} {m : Prop} {q x : gG} (h : cam f t m q x) (ho : onT x = 1) : onT q = 1 := by
  unfold onT at ho ⊢
  by_cases c : x.2.2.2.2.1 = 0 ∧ x.2.1 = -1
  · by_cases e : q.2.2.2.2.1 = 0
    · rw [if_pos ⟨e, by rw [← h.2.1]; exact c.2⟩]
    · exact absurd c.1 (h.2.2.2.1 e)
  · rw [if_neg c] at ho; omega
theorem lv1_at {f t : Int} {gs : List gG} {g : Nat} (hg : g < gs.length) {k : Nat} {x : gG} (h : (lv1 f t gs g)[k]? = some x) : ∃ q, gs[k]? = some q ∧ cam f t (k = g) q x := by
  unfold lv1 at h
  have gk := gq_nat hg
  have same : ∀ (y : gG), k ≠ g → cam f t (k = g) y y := fun y c => ⟨rfl, rfl, rfl, id, fun _ => Or.inr ⟨c, rfl, rfl⟩⟩
  have gone : ∀ (y z : gG), y.1 = z.1 → y.2.1 = z.2.1 → y.2.2.2.2.2 = z.2.2.2.2.2 → cam f t (k = g) z (setGone y) := fun y z e1 e2 e3 => ⟨e1, e2, e3, fun _ => (by decide : (1 : Int) ≠ 0), fun ho => absurd ho (onT_gone y)⟩
  by_cases c : onT (gq gs g) = 1
  · rw [if_pos c] at h
    by_cases c2 : plc (gq gs g).2.2.1 f t = plc ((gq gs g).2.2.2.1 + 1) f t
    · rw [if_pos c2] at h
      have hl : g < (gs.set g (spG (gq gs g) (plc (gq gs g).2.2.1 f t) (plc ((gq gs g).2.2.2.1 + 1) f t - 1))).length := by rw [List.length_set]; exact hg
      obtain ⟨q0, h1, h2⟩ := awayG_at (g := (g : Int)) (by omega) (by omega) h
      by_cases e : k = g
      · have hgo : x.2.2.2.2.1 ≠ 0 := by
          have z := away_self (gs := gs.set g (spG (gq gs g) (plc (gq gs g).2.2.1 f t) (plc ((gq gs g).2.2.2.1 + 1) f t - 1))) hl (e ▸ h)
          exact z
        rcases setG_at hg h1 with ⟨_, e2⟩ | ⟨n, _⟩
        · refine ⟨gq gs g, e ▸ gk, ?_, ?_, ?_, fun _ => hgo, fun ho => ?_⟩
          · rcases h2 with h2 | h2 <;> rw [h2, e2] <;> rfl
          · rcases h2 with h2 | h2 <;> rw [h2, e2] <;> rfl
          · rcases h2 with h2 | h2 <;> rw [h2, e2] <;> rfl
          · exfalso
            unfold onT at ho
            rw [if_neg (fun z => hgo z.1)] at ho
            omega
        · exact absurd e n
      · rcases setG_at hg h1 with ⟨e3, _⟩ | ⟨_, h3⟩
        · exact absurd e3 e
        · refine ⟨q0, h3, ?_⟩
          rcases h2 with h2 | h2
          · rw [h2]; exact same q0 e
          · rw [h2]; exact gone q0 q0 rfl rfl rfl
    · rw [if_neg c2] at h
      rcases setG_at hg h with ⟨e, e2⟩ | ⟨e, h3⟩
      · refine ⟨gq gs g, e ▸ gk, ?_⟩
        rw [e2]
        exact ⟨rfl, rfl, rfl, id, fun _ => Or.inl ⟨e, rfl, rfl, c2⟩⟩
      · exact ⟨x, h3, same x e⟩
  · rw [if_neg c] at h
    refine ⟨x, h, rfl, rfl, rfl, id, fun ho => ?_⟩
    by_cases e : k = g
    · rw [e, gk] at h; cases h; exact absurd ho c
    · exact Or.inr ⟨e, rfl, rfl⟩
theorem lvG_at {f t : Int} : ∀ (n g : Nat) (gs : List gG), g + n ≤ gs.length → ∀ {k : Nat} {x : gG}, (lvG f t n g gs)[k]? = some x → ∃ q, gs[k]? = some q ∧ cam f t (g ≤ k ∧ k < g + n) q x
  | 0, g, gs, _, k, x, h => ⟨x, h, rfl, rfl, rfl, id, fun _ => Or.inr ⟨by omega, rfl, rfl⟩⟩
  | n + 1, g, gs, hl, k, x, h => by
    have hl1 := lv1_len f t gs g
    obtain ⟨y, h1, h2⟩ := lvG_at n (g + 1) (lv1 f t gs g) (by omega) (k := k) (x := x) h
    obtain ⟨q, h3, h4⟩ := lv1_at (by omega) h1
    refine ⟨q, h3, h2.1.trans h4.1, h2.2.1.trans h4.2.1, h2.2.2.1.trans h4.2.2.1, fun z => h2.2.2.2.1 (h4.2.2.2.1 z), fun ho => ?_⟩
    have a1 := h2.2.2.2.2 ho
    have a2 := h4.2.2.2.2 (h2.on ho)
    rcases a1 with ⟨m1, b1, b2, b3⟩ | ⟨m1, b1, b2⟩
    · rcases a2 with ⟨m2, _⟩ | ⟨m2, c1, c2⟩
      · omega
      · refine Or.inl ⟨by omega, ?_, ?_, ?_⟩
        · rw [b1, c1]
        · rw [b2, c2]
        · rw [← c1, ← c2]; exact b3
    · rcases a2 with ⟨m2, c1, c2, c3⟩ | ⟨m2, c1, c2⟩
      · exact Or.inl ⟨by omega, by rw [b1, c1], by rw [b2, c2], c3⟩
      · exact Or.inr ⟨by omega, by rw [b1, c1], by rw [b2, c2]⟩
/-- all that the habits need of a book that is being copied -/
def wfS (s : cS) : Prop := spW s.1 s.2.1 ∧ rwW s.2.1 ∧ hoW s.2.1 ∧ gBd s.2.1 100 ∧ s.1.length ≤ 40 ∧ s.2.1.length ≤ 20
theorem hoW.away {gs : List gG} {g : Int} (h : hoW gs) (h0 : 0 ≤ g) (h1 : g < gs.length) : hoW (awayG gs g) := fun k q hk => by
  obtain ⟨q0, g1, g2⟩ := awayG_at h0 h1 hk
  have := h k q0 g1
  rcases g2 with rfl | rfl
  · exact this
  · exact this
theorem plc_cs (p f t : Int) : (p ≤ f ∧ plc p f t = p) ∨ (f < p ∧ p ≤ t ∧ plc p f t = f) ∨ (f < p ∧ t < p ∧ plc p f t = p - (t - f + 1)) := by
  unfold plc
  by_cases c : p ≤ f
  · rw [if_pos c]; omega
  · rw [if_neg c]
    by_cases e : p ≤ t
    · rw [if_pos e]; omega
    · rw [if_neg e]; omega
theorem lvS_wf {f t : Int} {s : cS} (h : wfS s) (h0 : 0 ≤ f) (h1 : f ≤ t) (h2 : t < s.1.length) : wfS (lvS f t s) ∧ (lvS f t s).2.1.length = s.2.1.length := by
  have hl := lvG_len f t s.2.1.length 0 s.2.1
  have hx : ((s.1.take f.toNat ++ s.1.drop (t + 1).toNat).length : Int) = s.1.length - (t - f + 1) := by
    rw [List.length_append, List.length_take, List.length_drop]; omega
  have hat : ∀ {x : gG}, x ∈ lvG f t s.2.1.length 0 s.2.1 → ∃ q ∈ s.2.1, cam f t True q x := fun {x} hx => by
    obtain ⟨k, hk⟩ := List.getElem?_of_mem hx
    have hkl := (List.getElem?_eq_some_iff.mp hk).1
    obtain ⟨q, a1, a2⟩ := lvG_at _ _ _ (by omega) hk
    refine ⟨q, List.mem_of_getElem? a1, a2.1, a2.2.1, a2.2.2.1, a2.2.2.2.1, fun ho => ?_⟩
    rcases a2.2.2.2.2 ho with b | b
    · exact Or.inl ⟨trivial, b.2⟩
    · exact absurd ⟨by omega, by omega⟩ b.1
  refine ⟨⟨⟨fun x hx2 ho => ?_, fun x hx2 y hy2 hxo hyo => ?_⟩, fun x hx2 => ?_, fun k x hk => ?_, ?_, ?_, ?_⟩, hl⟩
  · obtain ⟨q, a1, a2⟩ := hat hx2
    have b1 := h.1.1 q a1 (a2.on ho)
    rcases a2.2.2.2.2 ho with ⟨_, c1, c2, c3⟩ | ⟨c, _⟩
    · show 0 ≤ x.2.2.1 ∧ x.2.2.1 ≤ x.2.2.2.1 ∧ x.2.2.2.1 < ((s.1.take f.toNat ++ s.1.drop (t + 1).toNat).length : Int)
      rw [hx, c1, c2]
      have p1 := plc_cs q.2.2.1 f t
      have p2 := plc_cs (q.2.2.2.1 + 1) f t
      omega
    · exact absurd trivial c
  · obtain ⟨p, a1, a2⟩ := hat hx2
    obtain ⟨q, b1, b2⟩ := hat hy2
    have c1 := h.1.1 p a1 (a2.on hxo)
    have c2 := h.1.1 q b1 (b2.on hyo)
    have c3 := h.1.2 p a1 q b1 (a2.on hxo) (b2.on hyo)
    rcases a2.2.2.2.2 hxo with ⟨_, d1, d2, d3⟩ | ⟨c, _⟩
    · rcases b2.2.2.2.2 hyo with ⟨_, e1, e2, e3⟩ | ⟨c, _⟩
      · rw [d1, d2, e1, e2]
        have mono : ∀ a b : Int, a ≤ b → plc a f t ≤ plc b f t := fun a b hab => by unfold plc; (repeat' split) <;> omega
        rcases c3 with ⟨z1, z2⟩ | z | z
        · rw [z1, z2]; exact Or.inl ⟨rfl, rfl⟩
        · have := mono (p.2.2.2.1 + 1) q.2.2.1 (by omega); omega
        · have := mono (q.2.2.2.1 + 1) p.2.2.1 (by omega); omega
      · exact absurd trivial c
    · exact absurd trivial c
  · obtain ⟨q, a1, a2⟩ := hat hx2
    rw [a2.2.2.1]; exact h.2.1 q a1
  · obtain ⟨q, a1, a2⟩ := lvG_at _ _ _ (by omega) hk
    rw [a2.2.1]; exact h.2.2.1 k q a1
  · have := h.2.2.2.2.1
    exact lvG_bd h0 h1 (by omega) _ _ _ (by omega) h.2.2.2.1
  · have := h.2.2.2.2.1
    show (s.1.take f.toNat ++ s.1.drop (t + 1).toNat).length ≤ 40
    omega
  · show (lvG f t s.2.1.length 0 s.2.1).length ≤ 20
    rw [hl]; exact h.2.2.2.2.2
theorem tcS_wf {h m : Int} {s : cS} (hw : wfS s) : wfS (tcS h m s) := hw
/-- what one habit does: it keeps a book a book, and counts at most c chances -/
def hab (c : Int) (s s' : cS) : Prop := wfS s' ∧ s'.2.1.length = s.2.1.length ∧ ∀ b : Int, cBd s.2.2.1 b → cBd s.2.2.2 b → cBd s'.2.2.1 (b + c) ∧ cBd s'.2.2.2 (b + c)
theorem hab.trans {a b : Int} {s s1 s2 : cS} (h : hab a s s1) (h2 : hab b s1 s2) : hab (a + b) s s2 := ⟨h2.1, h2.2.1.trans h.2.1, fun c h3 h4 => by
  have z := h.2.2 c h3 h4
  have y := h2.2.2 _ z.1 z.2
  exact ⟨y.1.up (by omega), y.2.up (by omega)⟩⟩
theorem hab.rf {c : Int} {s : cS} (h : wfS s) (hc : 0 ≤ c) : hab c s s := ⟨h, rfl, fun b h1 h2 => ⟨h1.up (by omega), h2.up (by omega)⟩⟩
theorem hab.tc {h m : Int} {s : cS} (hw : wfS s) (h0 : 0 ≤ h) (h1 : h < 6) : hab 1 s (tcS h m s) := ⟨hw, rfl, fun _ h2 h3 => ⟨tcS_c h2 h0 h1, tcS_t h3 h0 h1⟩⟩
theorem skS_h {rc m : Int} : ∀ (n : Nat) (i : Int) (s : cS), 0 ≤ i → wfS s → hab n s (skS rc m n i s)
  | 0, _, _, _, h => hab.rf h (by omega)
  | n + 1, i, s, hi, h => by
    have cast1 : ((n + 1 : Nat) : Int) = 1 + n := by omega
    rw [cast1]
    show hab (1 + n) s (if _ then (if _ then _ else if _ then _ else _) else _)
    split
    · split
      · exact (hab.rf h (by omega)).trans (skS_h n (i + 1) s (by omega) h)
      · next c1 c2 =>
        have z := nxtL_in s.1 i rc
        split
        · have w := lvS_wf (s := tcS 1 m s) (tcS_wf h) (f := i + 1) (t := nxtL s.1 i rc) (by omega) (by omega) (by show nxtL s.1 i rc < (s.1.length : Int); omega)
          have hh : hab 1 s (lvS (i + 1) (nxtL s.1 i rc) (tcS 1 m s)) := ⟨w.1, w.2, fun b h2 h3 => (hab.tc (h := 1) (m := m) h (by omega) (by omega)).2.2 b h2 h3⟩
          exact hh.trans (skS_h n i _ hi w.1)
        · exact (hab.tc h (by omega) (by omega)).trans (skS_h n (i + 1) _ (by omega) (tcS_wf h))
    · exact hab.rf h (by omega)
theorem tuS_h {m : Int} : ∀ (n : Nat) (i : Int) (s : cS), wfS s → hab n s (tuS m n i s)
  | 0, _, _, h => hab.rf h (by omega)
  | n + 1, i, s, h => by
    have cast1 : ((n + 1 : Nat) : Int) = 1 + n := by omega
    rw [cast1]
    show hab (1 + n) s (if _ then (if _ then (if _ then _ else _) else _) else _)
    split
    · split
      · split
        · have el : (lput (lput s.1 i (lat s.1 (i + 1))) (i + 1) (lat s.1 i)).length = s.1.length := by rw [lput_len, lput_len]
          have w : wfS (lput (lput s.1 i (lat s.1 (i + 1))) (i + 1) (lat s.1 i), (tcS 2 m s).2) := ⟨lk.spW (gs := s.2.1) (gs' := s.2.1) rfl el h.1, h.2.1, h.2.2.1, h.2.2.2.1, by show (lput _ _ _).length ≤ 40; rw [el]; exact h.2.2.2.2.1, h.2.2.2.2.2⟩
          have hh : hab 1 s (lput (lput s.1 i (lat s.1 (i + 1))) (i + 1) (lat s.1 i), (tcS 2 m s).2) := ⟨w, rfl, fun b h2 h3 => (hab.tc (h := 2) (m := m) h (by omega) (by omega)).2.2 b h2 h3⟩
          exact hh.trans (tuS_h n (i + 2) _ w)
        · exact (hab.tc h (by omega) (by omega)).trans (tuS_h n (i + 1) _ (tcS_wf h))
      · exact (hab.rf h (by omega)).trans (tuS_h n (i + 1) s h)
    · exact hab.rf h (by omega)
theorem drS_h {m : Int} : ∀ (n g : Nat) (s : cS), g + n ≤ s.2.1.length → wfS s → hab n s (drS m n g s)
  | 0, _, _, _, h => hab.rf h (by omega)
  | n + 1, g, s, hg, h => by
    have cast1 : ((n + 1 : Nat) : Int) = 1 + n := by omega
    rw [cast1]
    show hab (1 + n) s (if _ then (if _ then _ else _) else _)
    split
    · split
      · have el := awayG_len s.2.1 g
        have w : wfS (s.1, awayG s.2.1 g, (tcS 4 m s).2.2) := ⟨h.1.away (by omega) (by omega), h.2.1.away (by omega) (by omega), h.2.2.1.away (by omega) (by omega), h.2.2.2.1.away (by omega) (by omega), h.2.2.2.2.1, by show (awayG s.2.1 g).length ≤ 20; rw [el]; exact h.2.2.2.2.2⟩
        have hh : hab 1 s (s.1, awayG s.2.1 g, (tcS 4 m s).2.2) := ⟨w, el, fun b h2 h3 => (hab.tc (h := 4) (m := m) h (by omega) (by omega)).2.2 b h2 h3⟩
        exact hh.trans (drS_h n (g + 1) _ (by show g + 1 + n ≤ (awayG s.2.1 g).length; omega) w)
      · exact (hab.tc h (by omega) (by omega)).trans (drS_h n (g + 1) _ (by show g + 1 + n ≤ s.2.1.length; omega) (tcS_wf h))
    · exact (hab.rf h (by omega)).trans (drS_h n (g + 1) s (by omega) h)
theorem slF_ho (wy : Int) (q p : gG) : (slF wy q p).2.1 = p.2.1 := by
  have a : ∀ (x y : Int) (r : gG), (shQ x y r).2.1 = r.2.1 := fun x y r => by unfold shQ; split <;> rfl
  have b : ∀ (x y : Int) (r : gG), (stQ x y r).2.1 = r.2.1 := fun x y r => by unfold stQ; split <;> rfl
  unfold slF
  split
  · exact a _ _ _
  · split
    · exact a _ _ _
    · show (stQ _ _ (shQ _ _ p)).2.1 = _
      rw [b, a]
theorem slO_ho {wy : Int} {tx : List Int} {gs : List gG} {q : gG} (h : hoW gs) : hoW (slO wy tx gs q).2 := fun k x hk => by
  rw [slO_gs, List.getElem?_map] at hk
  cases c : gs[k]? with
  | none => rw [c] at hk; cases hk
  | some p => rw [c] at hk; cases hk; rw [slF_ho]; exact h k p c
theorem inS_h {wy m : Int} (hwy : 0 ≤ wy ∧ wy ≤ 2) : ∀ (n g : Nat) (s : cS), g + n ≤ s.2.1.length → wfS s → hab n s (inS wy m n g s)
  | 0, _, _, _, h => hab.rf h (by omega)
  | n + 1, g, s, hg, h => by
    have cast1 : ((n + 1 : Nat) : Int) = 1 + n := by omega
    rw [cast1]
    show hab (1 + n) s (if _ then (if _ then _ else _) else _)
    split
    · next ec =>
      split
      · have hc := ec
        unfold inC at hc
        simp only [Bool.and_eq_true, decide_eq_true_eq] at hc
        have hm := gq_mem (gs := s.2.1) (g := (g : Int)) (by omega) (by omega)
        have bq := h.1.1 _ hm hc.1.1
        have hwS := slO_W (wy := wy) h.1 h.2.1 hm hc.1.1
        have hlen := slO_len (wy := wy) (gs := s.2.1) bq.1 bq.2.1 bq.2.2
        have h40 : (slO wy s.1 s.2.1 (gq s.2.1 g)).1.length ≤ 40 := by
          have h3 := hc.2
          by_cases c0 : wy = 0
          · simp only [if_pos c0] at hlen; rw [if_neg (by omega)] at h3; omega
          · by_cases c1 : wy = 1
            · simp only [if_neg c0, if_pos c1] at hlen; rw [if_neg (by omega)] at h3; omega
            · simp only [if_neg c0, if_neg c1] at hlen; rw [if_pos (by omega)] at h3; omega
        have el0 := slO_gl wy s.1 s.2.1 (gq s.2.1 g)
        have el := awayG_len (slO wy s.1 s.2.1 (gq s.2.1 g)).2 g
        have w : wfS ((slO wy s.1 s.2.1 (gq s.2.1 g)).1, awayG (slO wy s.1 s.2.1 (gq s.2.1 g)).2 g, (tcS 3 m s).2.2) := ⟨hwS.away (by omega) (by omega), (slO_rw h.2.1).away (by omega) (by omega), (slO_ho h.2.2.1).away (by omega) (by omega), (slO_bd h.2.2.2.1 hwS h40).away (by omega) (by omega), h40, by show (awayG _ _).length ≤ 20; rw [el, el0]; exact h.2.2.2.2.2⟩
        have hh : hab 1 s ((slO wy s.1 s.2.1 (gq s.2.1 g)).1, awayG (slO wy s.1 s.2.1 (gq s.2.1 g)).2 g, (tcS 3 m s).2.2) := ⟨w, el.trans el0, fun b h2 h3 => (hab.tc (h := 3) (m := m) h (by omega) (by omega)).2.2 b h2 h3⟩
        exact hh.trans (inS_h hwy n (g + 1) _ (by show g + 1 + n ≤ (awayG _ _).length; omega) w)
      · exact (hab.tc h (by omega) (by omega)).trans (inS_h hwy n (g + 1) _ (by show g + 1 + n ≤ s.2.1.length; omega) (tcS_wf h))
    · exact (hab.rf h (by omega)).trans (inS_h hwy n (g + 1) s (by omega) h)
theorem anyB_f {f : Nat → Bool} : ∀ {n k : Nat}, anyB f n = false → k < n → f k = false
  | n + 1, k, h, hk => by
    rw [anyB_s, Bool.or_eq_false_iff] at h
    by_cases c : k = n
    · subst c; exact h.2
    · exact anyB_f h.1 (by omega)
/-- no span of the text covers the place -/
theorem inSp_f {gs : List gG} {i : Int} (h : inSp gs i = false) {p : gG} (hp : p ∈ gs) (ho : onT p = 1) : i < p.2.2.1 ∨ p.2.2.2.1 < i := by
  obtain ⟨k, hk⟩ := List.getElem?_of_mem hp
  have hl := (List.getElem?_eq_some_iff.mp hk).1
  have z := anyB_f h hl
  simp only [gq_of hk] at z
  have z2 : ¬ cov p i = 1 := fun c => by rw [c, ho] at z; exact absurd z (by decide)
  unfold cov at z2
  by_cases c : p.2.2.1 ≤ i ∧ i ≤ p.2.2.2.1
  · rw [if_pos c] at z2; exact absurd rfl z2
  · omega
theorem mvC_of {tx : List Int} {gs : List gG} {q : gG} (h : mvC tx gs q = true) : onT q = 1 ∧ q.1 = 1 ∧ q.2.2.1 = q.2.2.2.1 ∧ alnC gs q = 1 ∧ 0 ≤ q.2.2.2.1 + 1 ∧ q.2.2.2.1 + 1 < tx.length ∧ inSp gs (q.2.2.2.1 + 1) = false := by
  unfold mvC at h
  simp only [Bool.and_eq_true, decide_eq_true_eq, Bool.not_eq_true'] at h
  obtain ⟨⟨⟨⟨⟨a, b⟩, c⟩, d⟩, e⟩, f⟩ := h
  unfold lhas at e
  have h4 : lml q = q.2.2.2.1 - q.2.2.1 + 1 := rfl
  by_cases c3 : 0 ≤ q.2.2.2.1 + 1 ∧ q.2.2.2.1 + 1 < tx.length
  · exact ⟨a, b, by omega, d, c3.1, c3.2, f⟩
  · rw [if_neg c3] at e; omega
theorem mvS_h {m : Int} : ∀ (n g : Nat) (s : cS), g + n ≤ s.2.1.length → wfS s → hab n s (mvS m n g s)
  | 0, _, _, _, h => hab.rf h (by omega)
  | n + 1, g, s, hg, h => by
    have cast1 : ((n + 1 : Nat) : Int) = 1 + n := by omega
    rw [cast1]
    show hab (1 + n) s (if _ then (if _ then _ else _) else _)
    split
    · next ec =>
      split
      · have hc := mvC_of ec
        have hm := gq_mem (gs := s.2.1) (g := (g : Int)) (by omega) (by omega)
        have hbd := mvC_bd h.2.2.2.2.1 ec (h.2.2.2.1 _ hm)
        have el : (s.2.1.set g (shG (gq s.2.1 g) 1)).length = s.2.1.length := List.length_set
        have on1 : ∀ q : gG, onT (shG q 1) = onT q := fun q => rfl
        have bq := h.1.1 _ hm hc.1
        have ap : ∀ p ∈ s.2.1, onT p = 1 → (shG (gq s.2.1 g) 1).2.2.2.1 < p.2.2.1 ∨ p.2.2.2.1 < (shG (gq s.2.1 g) 1).2.2.1 := fun p hp ho => by
          have z := inSp_f hc.2.2.2.2.2.2 hp ho
          show (gq s.2.1 g).2.2.2.1 + 1 < p.2.2.1 ∨ p.2.2.2.1 < (gq s.2.1 g).2.2.1 + 1
          omega
        have w : wfS (s.1, s.2.1.set g (shG (gq s.2.1 g) 1), (tcS 5 m s).2.2) := by
          refine ⟨⟨fun q hq ho => ?_, fun p hp q hq hpo hqo => ?_⟩, fun q hq => ?_, fun k q hk => ?_, h.2.2.2.1.set hbd, h.2.2.2.2.1, by show (s.2.1.set g _).length ≤ 20; rw [el]; exact h.2.2.2.2.2⟩
          · rcases mem_set hq with e | e
            · rw [e]; show 0 ≤ (gq s.2.1 g).2.2.1 + 1 ∧ (gq s.2.1 g).2.2.1 + 1 ≤ (gq s.2.1 g).2.2.2.1 + 1 ∧ (gq s.2.1 g).2.2.2.1 + 1 < s.1.length; omega
            · exact h.1.1 q e ho
          · rcases mem_set hp with e | e
            · rcases mem_set hq with e2 | e2
              · rw [e, e2]; exact Or.inl ⟨rfl, rfl⟩
              · rw [e]; exact Or.inr (ap q e2 hqo)
            · rcases mem_set hq with e2 | e2
              · rw [e2]; have := ap p e hpo; omega
              · exact h.1.2 p e q e2 hpo hqo
          · rcases mem_set hq with e | e
            · rw [e]; exact h.2.1 (gq s.2.1 g) hm
            · exact h.2.1 q e
          · rcases setG_at (by omega) hk with ⟨e1, e2⟩ | ⟨e1, e2⟩
            · rw [e2]; have := h.2.2.1 g _ (gq_nat (by omega)); rw [e1]; exact this
            · exact h.2.2.1 k q e2
        have hh : hab 1 s (s.1, s.2.1.set g (shG (gq s.2.1 g) 1), (tcS 5 m s).2.2) := ⟨w, el, fun b h2 h3 => (hab.tc (h := 5) (m := m) h (by omega) (by omega)).2.2 b h2 h3⟩
        exact hh.trans (mvS_h n (g + 1) _ (by show g + 1 + n ≤ (s.2.1.set g _).length; omega) w)
      · exact (hab.tc h (by omega) (by omega)).trans (mvS_h n (g + 1) _ (by show g + 1 + n ≤ s.2.1.length; omega) (tcS_wf h))
    · exact (hab.rf h (by omega)).trans (mvS_h n (g + 1) s (by omega) h)
