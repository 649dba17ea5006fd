/-! two worlds side by side: a call that works in one of them -/
section PXF
variable {D : va_G} {cl : List vw_C} {L Rr L1 : va_W} {H H1 : Heap} {A0 : Nat → Prop}
theorem px_left (hP : va_P D cl (L ++ Rr) H) : va_P D cl L H := by
  intro k q hk
  exact hP k q (by rw [List.getElem?_append_left (List.getElem?_eq_some_iff.mp hk).1]; exact hk)
theorem px_leftD (hD : va_D A0 (L ++ Rr)) : va_D A0 L := by
  have h : ∀ (k : Nat) (q : Nat × va_E), L[k]? = some q → (L ++ Rr)[k]? = some q := fun k q hk => by rw [List.getElem?_append_left (List.getElem?_eq_some_iff.mp hk).1]; exact hk
  exact ⟨fun i j p q hi hj e => hD.1 i j p q (h i p hi) (h j q hj) e, fun k q hk => hD.2 k q (h k q hk)⟩
theorem px_selfD (n : Nat) (hD : va_D A0 L) : va_D (va_A L n) L := ⟨hD.1, fun k q hk => Or.inl ⟨k, q.2, hk⟩⟩
theorem px_commP (hP : va_P D cl (L ++ Rr) H) : va_P D cl (Rr ++ L) H := px_Pperm List.perm_append_comm hP
theorem px_commD (hD : va_D A0 (L ++ Rr)) : va_D A0 (Rr ++ L) := px_Dperm List.perm_append_comm hD
theorem px_allA {H0 : Heap} {locs : List Loc} (hD : va_D A0 L) (hS : va_S A0 H0 H locs) (hA : ∀ q, H0.size ≤ q → A0 q) : ∀ q, va_A L H.size q → A0 q := by
  intro q h
  rcases h with ⟨k, e, h⟩ | h
  · exact hD.2 k (q, e) h
  · exact hA q (Nat.le_trans hS.1 h)
theorem px_subA {X cx pl : va_W} {n : Nat} (is : List Nat) (hs : is.map (fun i => X[i]?) = cx.map some) : ∀ q, va_A (cx ++ pl) n q → va_A (X ++ pl) n q := by
  intro q h
  rcases h with ⟨k, e, h⟩ | h
  · exact Or.inl ⟨_, e, va_part is hs k _ h⟩
  · exact Or.inr h
theorem px_subA0 {X cx : va_W} {n : Nat} (is : List Nat) (hs : is.filterMap (fun i => X[i]?) = cx) : ∀ q, va_A cx n q → va_A X n q := by
  intro q h
  rcases h with ⟨k, e, h⟩ | h
  · subst hs
    obtain ⟨i, -, hi⟩ := List.mem_filterMap.mp (List.mem_of_getElem? h)
    exact Or.inl ⟨i, e, hi⟩
  · exact Or.inr h
theorem px_subA1 {X pl : va_W} {n : Nat} : ∀ q, va_A X n q → va_A (X ++ pl) n q := by
  intro q h
  rcases h with ⟨k, e, h⟩ | h
  · exact Or.inl ⟨k, e, by rw [List.getElem?_append_left (List.getElem?_eq_some_iff.mp h).1]; exact h⟩
  · exact Or.inr h
theorem px_fr2 {B : Nat → Prop} (hP : va_P D cl (L ++ Rr) H) (hD : va_D A0 (L ++ Rr)) (hk : ∀ q : Nat, q < H.size → ¬ B q → H1[q]? = H[q]?) (hB : ∀ q, B q → va_A L H.size q) (hAL : ∀ q, va_A L H.size q → A0 q) (hP1 : va_P D cl L1 H1) (hD1 : va_D (va_A L H.size) L1) : va_P D cl (L1 ++ Rr) H1 ∧ va_D A0 (L1 ++ Rr) := by
  have hR : ∀ (k : Nat) (q : Nat × va_E), Rr[k]? = some q → (L ++ Rr)[L.length + k]? = some q := fun k q h => by rw [List.getElem?_append_right (by omega), Nat.add_sub_cancel_left]; exact h
  have apart : ∀ (k : Nat) (q : Nat × va_E), Rr[k]? = some q → q.1 < H.size ∧ ¬ va_A L H.size q.1 := by
    intro k q h
    have hlt := (hP _ q (hR k q h)).lt
    refine ⟨hlt, fun ha => ?_⟩
    rcases ha with ⟨j, e, hj⟩ | ha
    · have hjl := (List.getElem?_eq_some_iff.mp hj).1
      have := hD.1 j (L.length + k) (q.1, e) q (by rw [List.getElem?_append_left hjl]; exact hj) (hR k q h) rfl
      omega
    · omega
  refine ⟨hP1.app (fun k q h => ?_), va_D.app ⟨hD1.1, fun k q h => hAL _ (hD1.2 k q h)⟩ ⟨fun i j p q hi hj e => ?_, fun k q h => hD.2 _ q (hR k q h)⟩ (fun i j p q hi hj e => ?_)⟩
  · obtain ⟨h1, h2⟩ := apart k q h
    exact (hP _ q (hR k q h)).kept (hk q.1 h1 (fun hb => h2 (hB _ hb)))
  · have := hD.1 _ _ p q (hR i p hi) (hR j q hj) e
    omega
  · exact (apart j q hj).2 (e ▸ hD1.2 i p hi)
end PXF

