/-! pools of numbers: 200 objects of Num and their arrays, by index -/
abbrev px_NV : Type := Int32 × Int32 × (Nat → Int32)
/-- cell j of the pool: objects first, then arrays -/
def px_nc (hh qq : Nat → Nat) (cN : ClassId) (nv : Nat → px_NV) (j : Nat) : Nat × va_E := if j < 200 then (hh j, .inr (9, [.ref (qq j), .int (nv j).1, .int (nv j).2.1])) else (qq (j - 200), .inl (cN, 160, .inl (nv (j - 200)).2.2))
def px_np (hh qq : Nat → Nat) (cN : ClassId) (nv : Nat → px_NV) : va_W := (List.range 400).map (px_nc hh qq cN nv)
/-- numbers apart: what a method of Num gets -/
def px_nw (hh qq : Nat → Nat) (cN : ClassId) (vs : List (Nat × px_NV)) : va_W := vs.flatMap (fun p => [(hh p.1, .inr (9, [.ref (qq p.1), .int p.2.1, .int p.2.2.1])), (qq p.1, .inl (cN, 160, .inl p.2.2.2))])
def px_fold (nv : Nat → px_NV) (vs : List (Nat × px_NV)) : Nat → px_NV := vs.foldr (fun p g => va_up g p.1 p.2) nv
/-- indices of the pool, each once -/
def px_ix (is : List Nat) : Prop := is.Nodup ∧ ∀ i ∈ is, i < 200
/-- the reference's references: the first eight are numbers of the pool -/
def px_rf (hh rf : Nat → Nat) (k : Nat) : Nat := if k < 8 then hh (192 + k) else rf k
theorem px_np_get (hh qq : Nat → Nat) (cN : ClassId) (nv : Nat → px_NV) {j : Nat} (h : j < 400) : (px_np hh qq cN nv)[j]? = some (px_nc hh qq cN nv j) := by
  unfold px_np
  rw [List.getElem?_map, List.getElem?_range h]
  rfl
theorem px_np_len (hh qq : Nat → Nat) (cN : ClassId) (nv : Nat → px_NV) : (px_np hh qq cN nv).length = 400 := by
  unfold px_np
  rw [List.length_map, List.length_range]
theorem px_gj {X : va_W} {n : Nat} (hn : X.length = n) (hh qq : Nat → Nat) (cN : ClassId) (nv : Nat → px_NV) {j : Nat} (h : j < 400) : (X ++ px_np hh qq cN nv)[n + j]? = some (px_nc hh qq cN nv j) := by
  subst hn
  rw [List.getElem?_append_right (by omega), Nat.add_sub_cancel_left]
  exact px_np_get hh qq cN nv h
theorem px_go {X : va_W} {n : Nat} (hn : X.length = n) {hh qq : Nat → Nat} {cN : ClassId} {nv : Nat → px_NV} {i : Nat} (h : i < 200) : (X ++ px_np hh qq cN nv)[n + i]? = some (hh i, .inr (9, [.ref (qq i), .int (nv i).1, .int (nv i).2.1])) := by
  rw [px_gj hn hh qq cN nv (show i < 400 by omega), px_nc, if_pos h]
theorem px_ga {X : va_W} {n : Nat} (hn : X.length = n) {hh qq : Nat → Nat} {cN : ClassId} {nv : Nat → px_NV} {i : Nat} (h : i < 200) : (X ++ px_np hh qq cN nv)[n + (200 + i)]? = some (qq i, .inl (cN, 160, .inl (nv i).2.2)) := by
  rw [px_gj hn hh qq cN nv (show 200 + i < 400 by omega), px_nc, if_neg (by omega), Nat.add_sub_cancel_left]
theorem px_set {X : va_W} {n : Nat} (hn : X.length = n) {hh qq : Nat → Nat} {cN : ClassId} {nv nv' : Nat → px_NV} {j : Nat} (h : j < 400) {c : Nat × va_E} (hc : c = px_nc hh qq cN nv' j) (ho : ∀ k, k < 400 → k ≠ j → px_nc hh qq cN nv k = px_nc hh qq cN nv' k) : (X ++ px_np hh qq cN nv).set (n + j) c = X ++ px_np hh qq cN nv' := by
  subst hn
  rw [List.set_append_right (X.length + j) c (by omega), Nat.add_sub_cancel_left]
  congr 1
  apply List.ext_getElem?
  intro k
  by_cases hk : k < 400
  · rw [px_np_get _ _ _ _ hk]
    by_cases hkj : k = j
    · subst hkj
      rw [List.getElem?_set_self (by rw [px_np_len]; exact h), hc]
    · rw [List.getElem?_set_ne (Ne.symm hkj), px_np_get _ _ _ _ hk, ho k hk hkj]
  · rw [List.getElem?_eq_none (by rw [List.length_set, px_np_len]; omega), List.getElem?_eq_none (by rw [px_np_len]; omega)]
theorem px_so {X : va_W} {n : Nat} (hn : X.length = n) {hh qq : Nat → Nat} {cN : ClassId} {nv : Nat → px_NV} {i : Nat} (h : i < 200) {a b : Int32} : (X ++ px_np hh qq cN nv).set (n + i) (hh i, .inr (9, [.ref (qq i), .int a, .int b])) = X ++ px_np hh qq cN (va_up nv i ⟨a, b, (nv i).2.2⟩) := by
  refine px_set hn (show i < 400 by omega) ?_ (fun k hk hki => ?_)
  · rw [px_nc, if_pos h, va_up_self]
  · unfold px_nc
    by_cases h2 : k < 200
    · rw [if_pos h2, if_pos h2, va_up_ne _ _ hki]
    · rw [if_neg h2, if_neg h2]
      by_cases h3 : k - 200 = i
      · rw [h3, va_up_self]
      · rw [va_up_ne _ _ h3]
theorem px_sa {X : va_W} {n : Nat} (hn : X.length = n) {hh qq : Nat → Nat} {cN : ClassId} {nv : Nat → px_NV} {i : Nat} (h : i < 200) {f : Nat → Int32} : (X ++ px_np hh qq cN nv).set (n + (200 + i)) (qq i, .inl (cN, 160, .inl f)) = X ++ px_np hh qq cN (va_up nv i ⟨(nv i).1, (nv i).2.1, f⟩) := by
  refine px_set hn (show 200 + i < 400 by omega) ?_ (fun k hk hki => ?_)
  · rw [px_nc, if_neg (by omega), Nat.add_sub_cancel_left, va_up_self]
  · unfold px_nc
    by_cases h2 : k < 200
    · rw [if_pos h2, if_pos h2]
      by_cases h3 : k = i
      · rw [h3, va_up_self]
      · rw [va_up_ne _ _ h3]
    · rw [if_neg h2, if_neg h2, va_up_ne _ _ (show k - 200 ≠ i by omega)]
theorem px_soP {D : va_G} {cl : List vw_C} {H : Heap} {X : va_W} {n : Nat} (hn : X.length = n) {hh qq : Nat → Nat} {cN : ClassId} {nv nv1 : Nat → px_NV} {i : Nat} (h : i < 200) {a b : Int32} (e : nv1 = va_up nv i ⟨a, b, (nv i).2.2⟩) (hP : va_P D cl ((X ++ px_np hh qq cN nv).set (n + i) (hh i, .inr (9, [.ref (qq i), .int a, .int b]))) H) : va_P D cl (X ++ px_np hh qq cN nv1) H := by
  rw [e, ← px_so hn h]
  exact hP
theorem px_soD {A : Nat → Prop} {X : va_W} {n : Nat} (hn : X.length = n) {hh qq : Nat → Nat} {cN : ClassId} {nv nv1 : Nat → px_NV} {i : Nat} (h : i < 200) {a b : Int32} (e : nv1 = va_up nv i ⟨a, b, (nv i).2.2⟩) (hD : va_D A ((X ++ px_np hh qq cN nv).set (n + i) (hh i, .inr (9, [.ref (qq i), .int a, .int b])))) : va_D A (X ++ px_np hh qq cN nv1) := by
  rw [e, ← px_so hn h]
  exact hD
theorem px_saP {D : va_G} {cl : List vw_C} {H : Heap} {X : va_W} {n : Nat} (hn : X.length = n) {hh qq : Nat → Nat} {cN : ClassId} {nv nv1 : Nat → px_NV} {i : Nat} (h : i < 200) {f : Nat → Int32} (e : nv1 = va_up nv i ⟨(nv i).1, (nv i).2.1, f⟩) (hP : va_P D cl ((X ++ px_np hh qq cN nv).set (n + (200 + i)) (qq i, .inl (cN, 160, .inl f))) H) : va_P D cl (X ++ px_np hh qq cN nv1) H := by
  rw [e, ← px_sa hn h]
  exact hP
theorem px_saD {A : Nat → Prop} {X : va_W} {n : Nat} (hn : X.length = n) {hh qq : Nat → Nat} {cN : ClassId} {nv nv1 : Nat → px_NV} {i : Nat} (h : i < 200) {f : Nat → Int32} (e : nv1 = va_up nv i ⟨(nv i).1, (nv i).2.1, f⟩) (hD : va_D A ((X ++ px_np hh qq cN nv).set (n + (200 + i)) (qq i, .inl (cN, 160, .inl f)))) : va_D A (X ++ px_np hh qq cN nv1) := by
  rw [e, ← px_sa hn h]
  exact hD
theorem px_fold_out (nv : Nat → px_NV) {i : Nat} : ∀ (vs : List (Nat × px_NV)), i ∉ vs.map Prod.fst → px_fold nv vs i = nv i
  | [], _ => rfl
  | p :: vs, h => by
    rw [List.map_cons, List.mem_cons, not_or] at h
    show va_up (px_fold nv vs) p.1 p.2 i = nv i
    rw [va_up_ne _ _ h.1]
    exact px_fold_out nv vs h.2
theorem px_fold_in (nv : Nat → px_NV) {q : Nat × px_NV} : ∀ (vs : List (Nat × px_NV)), (vs.map Prod.fst).Nodup → q ∈ vs → px_fold nv vs q.1 = q.2
  | [], _, h => by cases h
  | p :: vs, hn, h => by
    rw [List.map_cons, List.nodup_cons] at hn
    show va_up (px_fold nv vs) p.1 p.2 q.1 = q.2
    rcases List.mem_cons.mp h with h | h
    · rw [h, va_up_self]
    · have hne : q.1 ≠ p.1 := fun e => hn.1 (by rw [← e]; exact List.mem_map.mpr ⟨q, h, rfl⟩)
      rw [va_up_ne _ _ hne]
      exact px_fold_in nv vs hn.2 h
theorem px_nw_mem {hh qq : Nat → Nat} {cN : ClassId} {vs : List (Nat × px_NV)} {q : Nat × va_E} (h : q ∈ px_nw hh qq cN vs) : ∃ p ∈ vs, q = (hh p.1, .inr (9, [.ref (qq p.1), .int p.2.1, .int p.2.2.1])) ∨ q = (qq p.1, .inl (cN, 160, .inl p.2.2.2)) := by
  obtain ⟨p, hp, hq⟩ := List.mem_flatMap.mp h
  refine ⟨p, hp, ?_⟩
  rcases List.mem_cons.mp hq with h1 | h1
  · exact Or.inl h1
  · exact Or.inr (List.mem_singleton.mp h1)
theorem px_outP {D : va_G} {cl : List vw_C} {X : va_W} {hh qq : Nat → Nat} {cN : ClassId} {nv : Nat → px_NV} {H : Heap} (hP : va_P D cl (X ++ px_np hh qq cN nv) H) (is : List Nat) (ok : px_ix is) : va_P D cl (px_nw hh qq cN (is.map (fun i => (i, nv i)))) H := by
  intro k q hk
  obtain ⟨p, hp, hq⟩ := px_nw_mem (List.mem_of_getElem? hk)
  obtain ⟨i, hi, rfl⟩ := List.mem_map.mp hp
  rcases hq with rfl | rfl
  · exact hP _ _ (px_go rfl (ok.2 i hi))
  · exact hP _ _ (px_ga rfl (ok.2 i hi))
/-- distinct addresses, by membership -/
theorem px_D_nd {A : Nat → Prop} {ws : va_W} (h1 : (ws.map Prod.fst).Nodup) (h2 : ∀ q ∈ ws, A q.1) : va_D A ws := by
  refine ⟨fun i j p q hi hj e => ?_, fun k q hk => h2 q (List.mem_of_getElem? hk)⟩
  have a1 : (ws.map Prod.fst)[i]? = some p.1 := by rw [List.getElem?_map, hi]; rfl
  have a2 : (ws.map Prod.fst)[j]? = some p.1 := by rw [List.getElem?_map, hj, e]; rfl
  have l1 := (List.getElem?_eq_some_iff.mp a1).1
  exact (List.getElem?_inj l1 h1).mp (a1.trans a2.symm)
theorem px_nw_nd {hh qq : Nat → Nat} {cN : ClassId} (f : Nat → px_NV) (i1 : ∀ i j, i < 200 → j < 200 → hh i = hh j → i = j) (i2 : ∀ i j, i < 200 → j < 200 → qq i = qq j → i = j) (i3 : ∀ i j, i < 200 → j < 200 → hh i ≠ qq j) : ∀ (is : List Nat), px_ix is → ((px_nw hh qq cN (is.map (fun i => (i, f i)))).map Prod.fst).Nodup
  | [], _ => List.nodup_nil
  | i :: is, ok => by
    obtain ⟨hn, hb⟩ := ok
    rw [List.nodup_cons] at hn
    have hi := hb i List.mem_cons_self
    have ih := px_nw_nd f i1 i2 i3 is ⟨hn.2, fun j hj => hb j (List.mem_cons_of_mem _ hj)⟩ (cN := cN)
    have key : ∀ a ∈ (px_nw hh qq cN (is.map (fun i => (i, f i)))).map Prod.fst, ∃ j ∈ is, a = hh j ∨ a = qq j := by
      intro a ha
      obtain ⟨q, hq, rfl⟩ := List.mem_map.mp ha
      obtain ⟨p, hp, hq⟩ := px_nw_mem hq
      obtain ⟨j, hj, rfl⟩ := List.mem_map.mp hp
      rcases hq with rfl | rfl
      · exact ⟨j, hj, Or.inl rfl⟩
      · exact ⟨j, hj, Or.inr rfl⟩
    show (hh i :: qq i :: (px_nw hh qq cN (is.map (fun i => (i, f i)))).map Prod.fst).Nodup
    rw [List.nodup_cons, List.nodup_cons]
    refine ⟨fun h => ?_, fun h => ?_, ih⟩
    · rcases List.mem_cons.mp h with h | h
      · exact i3 i i hi hi h
      · obtain ⟨j, hj, h | h⟩ := key _ h
        · exact hn.1 (by rw [i1 i j hi (hb j (List.mem_cons_of_mem _ hj)) h]; exact hj)
        · exact i3 i j hi (hb j (List.mem_cons_of_mem _ hj)) h
    · obtain ⟨j, hj, h | h⟩ := key _ h
      · exact i3 j i (hb j (List.mem_cons_of_mem _ hj)) hi h.symm
      · exact hn.1 (by rw [i2 i j hi (hb j (List.mem_cons_of_mem _ hj)) h]; exact hj)
theorem px_inj {A : Nat → Prop} {X : va_W} {hh qq : Nat → Nat} {cN : ClassId} {nv : Nat → px_NV} (hD : va_D A (X ++ px_np hh qq cN nv)) : (∀ i j, i < 200 → j < 200 → hh i = hh j → i = j) ∧ (∀ i j, i < 200 → j < 200 → qq i = qq j → i = j) ∧ (∀ i j, i < 200 → j < 200 → hh i ≠ qq j) := by
  refine ⟨fun i j hi hj e => ?_, fun i j hi hj e => ?_, fun i j hi hj e => ?_⟩
  · have := hD.1 _ _ _ _ (px_go rfl hi) (px_go rfl hj) e
    omega
  · have := hD.1 _ _ _ _ (px_ga rfl hi) (px_ga rfl hj) e
    omega
  · have := hD.1 _ _ _ _ (px_go rfl hi) (px_ga rfl hj) e
    omega
theorem px_outD {A : Nat → Prop} {X : va_W} {hh qq : Nat → Nat} {cN : ClassId} {nv : Nat → px_NV} (hD : va_D A (X ++ px_np hh qq cN nv)) (is : List Nat) (ok : px_ix is) : va_D A (px_nw hh qq cN (is.map (fun i => (i, nv i)))) := by
  obtain ⟨i1, i2, i3⟩ := px_inj hD
  refine px_D_nd (px_nw_nd nv i1 i2 i3 is ok) (fun q hq => ?_)
  obtain ⟨p, hp, hq⟩ := px_nw_mem hq
  obtain ⟨j, hj, rfl⟩ := List.mem_map.mp hp
  rcases hq with rfl | rfl
  · exact hD.2 _ _ (px_go rfl (ok.2 j hj))
  · exact hD.2 _ _ (px_ga rfl (ok.2 j hj))
theorem px_outF {A0 : Nat → Prop} {X : va_W} {hh qq : Nat → Nat} {cN : ClassId} {nv : Nat → px_NV} {H0 H : Heap} {locs : List Loc} (hD : va_D A0 (X ++ px_np hh qq cN nv)) (hS : va_S A0 H0 H locs) (hA : ∀ q, H0.size ≤ q → A0 q) (is : List Nat) (ok : px_ix is) : ∀ q, va_A (px_nw hh qq cN (is.map (fun i => (i, nv i)))) H.size q → A0 q := by
  intro q h
  rcases h with ⟨k, e, h⟩ | h
  · exact (px_outD hD is ok).2 _ _ h
  · exact hA q (Nat.le_trans hS.1 h)
theorem px_np_fst (hh qq : Nat → Nat) (cN : ClassId) (nv nv' : Nat → px_NV) (j : Nat) : (px_nc hh qq cN nv j).1 = (px_nc hh qq cN nv' j).1 := by
  unfold px_nc
  by_cases h : j < 200
  · rw [if_pos h, if_pos h]
  · rw [if_neg h, if_neg h]
theorem px_reD {A : Nat → Prop} {X : va_W} {hh qq : Nat → Nat} {cN : ClassId} {nv : Nat → px_NV} (nv' : Nat → px_NV) (hD : va_D A (X ++ px_np hh qq cN nv)) : va_D A (X ++ px_np hh qq cN nv') := by
  have key : ∀ (k : Nat) (q : Nat × va_E), (X ++ px_np hh qq cN nv')[k]? = some q → ∃ q' : Nat × va_E, (X ++ px_np hh qq cN nv)[k]? = some q' ∧ q'.1 = q.1 := by
    intro k q hk
    by_cases h : k < X.length
    · rw [List.getElem?_append_left h] at hk
      exact ⟨q, by rw [List.getElem?_append_left h]; exact hk, rfl⟩
    · have hl := (List.getElem?_eq_some_iff.mp hk).1
      rw [List.length_append, px_np_len] at hl
      have hk2 := hk
      rw [show k = X.length + (k - X.length) by omega, px_gj rfl _ _ _ _ (show k - X.length < 400 by omega)] at hk2
      refine ⟨px_nc hh qq cN nv (k - X.length), ?_, ?_⟩
      · have := px_gj (X := X) rfl hh qq cN nv (show k - X.length < 400 by omega)
        rw [show X.length + (k - X.length) = k by omega] at this
        exact this
      · rw [← Option.some.inj hk2]
        exact px_np_fst ..
  refine ⟨fun i j p q hi hj e => ?_, fun k q hk => ?_⟩
  · obtain ⟨p', h1, e1⟩ := key i p hi
    obtain ⟨q', h2, e2⟩ := key j q hj
    exact hD.1 i j p' q' h1 h2 (by rw [e1, e2]; exact e)
  · obtain ⟨q', h1, e1⟩ := key k q hk
    rw [← e1]
    exact hD.2 k q' h1
theorem px_in {A0 : Nat → Prop} {D : va_G} {cl : List vw_C} {X : va_W} {hh qq : Nat → Nat} {cN : ClassId} {nv : Nat → px_NV} {H H1 : Heap} (hP : va_P D cl (X ++ px_np hh qq cN nv) H) (hD : va_D A0 (X ++ px_np hh qq cN nv)) (is : List Nat) (ok : px_ix is) (vs : List (Nat × px_NV)) (hv : vs.map Prod.fst = is)
    (hk : ∀ q : Nat, q < H.size → ¬ va_A (px_nw hh qq cN (is.map (fun i => (i, nv i)))) H.size q → H1[q]? = H[q]?) (hP1 : va_P D cl (px_nw hh qq cN vs) H1) {nv1 : Nat → px_NV} (he : nv1 = px_fold nv vs) : va_P D cl (X ++ px_np hh qq cN nv1) H1 ∧ va_D A0 (X ++ px_np hh qq cN nv1) := by
  subst he
  refine ⟨?_, px_reD _ hD⟩
  -- a cell at place k whose address is no number's of is stays
  have stay : ∀ (k : Nat) (q : Nat × va_E), (X ++ px_np hh qq cN nv)[k]? = some q → (∀ i ∈ is, k ≠ X.length + i ∧ k ≠ X.length + (200 + i)) → va_at D cl q H1 := by
    intro k q hkq hne
    have hlt := (hP k q hkq).lt
    refine (hP k q hkq).kept (hk q.1 hlt (fun h => ?_))
    rcases h with ⟨k2, e, h⟩ | h
    · obtain ⟨p, hp, hq⟩ := px_nw_mem (List.mem_of_getElem? h)
      obtain ⟨i, hi, rfl⟩ := List.mem_map.mp hp
      rcases hq with hq | hq
      · exact (hne i hi).1 (hD.1 _ _ _ _ hkq (px_go rfl (ok.2 i hi)) (by have := congrArg Prod.fst hq; exact this))
      · exact (hne i hi).2 (hD.1 _ _ _ _ hkq (px_ga rfl (ok.2 i hi)) (by have := congrArg Prod.fst hq; exact this))
    · omega
  have inside : ∀ i ∈ is, ∃ p ∈ vs, p.1 = i := by
    intro i hi
    rw [← hv] at hi
    obtain ⟨p, hp, e⟩ := List.mem_map.mp hi
    exact ⟨p, hp, e⟩
  have nd : (vs.map Prod.fst).Nodup := by rw [hv]; exact ok.1
  intro k q hkq
  by_cases h : k < X.length
  · have hkq' : (X ++ px_np hh qq cN nv)[k]? = some q := by
      rw [List.getElem?_append_left h] at hkq ⊢
      exact hkq
    exact stay k q hkq' (fun i hi => ⟨by omega, by omega⟩)
  · have hl := (List.getElem?_eq_some_iff.mp hkq).1
    rw [List.length_append, px_np_len] at hl
    obtain ⟨j, hj⟩ : ∃ j, j = k - X.length := ⟨_, rfl⟩
    have hkj : k = X.length + j := by omega
    have hj4 : j < 400 := by omega
    rw [hkj, px_gj rfl _ _ _ _ hj4] at hkq
    have hq := (Option.some.inj hkq).symm
    subst hq
    by_cases h2 : j < 200
    · by_cases h3 : j ∈ is
      · obtain ⟨p, hp, e⟩ := inside j h3
        subst e
        rw [px_nc, if_pos h2, px_fold_in nv vs nd hp]
        obtain ⟨k3, hk3⟩ := List.getElem?_of_mem (show (hh p.1, .inr (9, [.ref (qq p.1), .int p.2.1, .int p.2.2.1])) ∈ px_nw hh qq cN vs from List.mem_flatMap.mpr ⟨p, hp, List.mem_cons_self⟩)
        exact hP1 k3 _ hk3
      · have e : px_nc hh qq cN (px_fold nv vs) j = px_nc hh qq cN nv j := by
          rw [px_nc, px_nc, if_pos h2, if_pos h2, px_fold_out nv vs (by rw [hv]; exact h3)]
        rw [e]
        refine stay k _ (by rw [hkj]; exact px_gj rfl _ _ _ _ hj4) (fun i hi => ⟨fun q => h3 ?_, by omega⟩)
        rw [show j = i by omega]
        exact hi
    · obtain ⟨i, hi⟩ : ∃ i, i = j - 200 := ⟨_, rfl⟩
      have hji : j = 200 + i := by omega
      subst hji
      by_cases h3 : i ∈ is
      · obtain ⟨p, hp, e⟩ := inside i h3
        subst e
        rw [px_nc, if_neg h2, Nat.add_sub_cancel_left, px_fold_in nv vs nd hp]
        obtain ⟨k3, hk3⟩ := List.getElem?_of_mem (show (qq p.1, .inl (cN, 160, .inl p.2.2.2)) ∈ px_nw hh qq cN vs from List.mem_flatMap.mpr ⟨p, hp, List.mem_cons_of_mem _ List.mem_cons_self⟩)
        exact hP1 k3 _ hk3
      · have e : px_nc hh qq cN (px_fold nv vs) (200 + i) = px_nc hh qq cN nv (200 + i) := by
          rw [px_nc, px_nc, if_neg h2, if_neg h2, Nat.add_sub_cancel_left, px_fold_out nv vs (by rw [hv]; exact h3)]
        rw [e]
        refine stay k _ (by rw [hkj]; exact px_gj rfl _ _ _ _ hj4) (fun i' hi' => ⟨fun q => ?_, fun q => h3 ?_⟩)
        · have := ok.2 i' hi'
          omega
        · rw [show i = i' by omega]
          exact hi'

