/-! the reference's constructor: its pool as it grows -/
def px_num0 (q : Nat) : va_E := .inr (9, [.ref q, .int 0, .int 0])
/-- the first k numbers, the last first -/
def px_zl (hh qq : Nat → Nat) (cN : ClassId) : Nat → va_W
  | 0 => []
  | k + 1 => (hh k, .inr (9, [.ref (qq k), .int 0, .int 0])) :: (qq k, .inl (cN, 160, .inl (fun _ => 0))) :: px_zl hh qq cN k
theorem px_zlE {hh hh' qq qq' : Nat → Nat} {cN : ClassId} : ∀ k, (∀ j, j < k → hh j = hh' j ∧ qq j = qq' j) → px_zl hh qq cN k = px_zl hh' qq' cN k
  | 0, _ => rfl
  | k + 1, h => by
    show (hh k, _) :: (qq k, _) :: px_zl hh qq cN k = (hh' k, _) :: (qq' k, _) :: px_zl hh' qq' cN k
    rw [px_zlE k (fun j hj => h j (by omega)), (h k (by omega)).1, (h k (by omega)).2]
theorem px_zlS {hh qq : Nat → Nat} {cN : ClassId} {k q q1 : Nat} : ((q, .inr (9, [.ref q1, .int 0, .int 0])) :: (q1, .inl (cN, 160, .inl (fun _ => 0))) :: px_zl hh qq cN k : va_W) = px_zl (va_up hh k q) (va_up qq k q1) cN (k + 1) := by
  show _ = (va_up hh k q k, _) :: (va_up qq k q1 k, _) :: px_zl (va_up hh k q) (va_up qq k q1) cN k
  rw [va_up_self, va_up_self, px_zlE (hh := va_up hh k q) (hh' := hh) (qq := va_up qq k q1) (qq' := qq) k (fun j hj => ⟨va_up_ne _ _ (by omega), va_up_ne _ _ (by omega)⟩)]
def px_fw (n : Nat) (hh : Nat → Nat) : Nat → Option Nat := fun j => if j < n then some (hh j) else none
theorem px_fw0 (hh : Nat → Nat) : (fun _ => none : Nat → Option Nat) = px_fw 0 hh := by
  funext j; unfold px_fw; rw [if_neg (Nat.not_lt_zero j)]
theorem px_fwE {n : Nat} {hh hh' : Nat → Nat} (h : ∀ j, j < n → hh j = hh' j) : px_fw n hh = px_fw n hh' := by
  funext j; unfold px_fw
  by_cases q : j < n
  · rw [if_pos q, if_pos q, h j q]
  · rw [if_neg q, if_neg q]
theorem px_fwS {k q : Nat} {hh hh' : Nat → Nat} (hk : k < 2 ^ 31) (h : ∀ j, j < k → hh' j = hh j) (h2 : hh' k = q) : va_up (px_fw k hh) (nI k).toNatClampNeg (some q) = px_fw (k + 1) hh' := by
  rw [nI_clamp hk]
  funext j
  unfold px_fw
  by_cases e : j = k
  · subst e
    rw [va_up_self, if_pos (by omega), h2]
  · rw [va_up_ne _ _ e]
    by_cases q : j < k
    · rw [if_pos q, if_pos (by omega), h j q]
    · rw [if_neg q, if_neg (by omega)]
theorem px_arrE {c : ClassId} {n : Nat} {f g : Nat → Value} (h : ∀ j, j < n → f j = g j) : arrV c n f = arrV c n g := by
  unfold arrV
  congr 1
  refine Array.ext (by simp) (fun i h1 h2 => ?_)
  simp at h1
  simp [h i h1]
theorem px_fwP {D : va_G} {cl : List vw_C} {ws : va_W} {H : Heap} {i a n : Nat} {c : ClassId} {f g : Nat → Option Nat} (hP : va_P D cl ws H) (hi : ws[i]? = some (a, .inl (c, n, .inr (.inr (.inr (.inr f)))))) (h : ∀ j, j < n → f j = g j) : va_P D cl (ws.set i (a, .inl (c, n, .inr (.inr (.inr (.inr g)))))) H := by
  intro k q hk
  by_cases e : i = k
  · subst e
    rw [List.getElem?_set_self (List.getElem?_eq_some_iff.mp hi).1] at hk
    cases hk
    have := hP i _ hi
    show H[a]? = some (vp_cell c (n, .inr (.inr (.inr (.inr g)))))
    have e : arrV c n (fun j => va_rf (g j)) = arrV c n (fun j => va_rf (f j)) := px_arrE (fun j hj => by rw [h j hj])
    show H[a]? = some (arrV c n (fun j => va_rf (g j)))
    rw [e]
    exact this
  · rw [List.getElem?_set_ne e] at hk
    exact hP k q hk
theorem px_fwD {A : Nat → Prop} {ws : va_W} {i a : Nat} {e e' : va_E} (hD : va_D A ws) (hi : ws[i]? = some (a, e)) : va_D A (ws.set i (a, e')) := hD.set hi
theorem px_zlp {hh qq : Nat → Nat} {cN : ClassId} : ∀ k, (px_zl hh qq cN k).Perm ((List.range k).map (fun j => ((hh j, .inr (9, [.ref (qq j), .int 0, .int 0])) : Nat × va_E)) ++ (List.range k).map (fun j => ((qq j, .inl (cN, 160, .inl (fun _ => 0))) : Nat × va_E)))
  | 0 => List.Perm.refl _
  | k + 1 => by
    rw [List.range_succ, List.map_append, List.map_append]
    have ih := px_zlp (hh := hh) (qq := qq) (cN := cN) k
    show ((hh k, _) :: (qq k, _) :: px_zl hh qq cN k).Perm _
    refine ((ih.cons _).cons _).trans ?_
    show ([_] ++ ([_] ++ (_ ++ _))).Perm ((_ ++ [_]) ++ (_ ++ [_]))
    refine List.Perm.trans ?_ (List.Perm.append List.perm_append_comm List.perm_append_comm)
    rw [List.append_assoc]
    refine List.Perm.append_left [_] ?_
    refine List.Perm.trans (List.Perm.of_eq (List.append_assoc _ _ _).symm) (List.Perm.trans ?_ (List.Perm.of_eq (List.append_assoc _ _ _)))
    exact List.Perm.append_right _ List.perm_append_comm
theorem px_npzl (hh qq : Nat → Nat) (cN : ClassId) : (px_np hh qq cN (fun _ => (0, 0, fun _ => 0))).Perm (px_zl hh qq cN 200) := by
  refine List.Perm.trans (List.Perm.of_eq ?_) (px_zlp 200).symm
  unfold px_np
  rw [show (400 : Nat) = 200 + 200 from rfl, List.range_add, List.map_append, List.map_map]
  refine congr (congrArg HAppend.hAppend (List.map_congr_left (fun j hj => ?_))) (List.map_congr_left (fun j hj => ?_))
  · unfold px_nc
    rw [if_pos (List.mem_range.1 hj)]
  · show px_nc hh qq cN _ (200 + j) = _
    unfold px_nc
    rw [if_neg (by omega), Nat.add_sub_cancel_left]
theorem px_rV0 : r_V (fun _ => ((0 : Int32), (0 : Int32), (fun _ => 0 : Nat → Int32))) := fun c _ => ⟨0, 0, by decide, rfl, fun j hj => absurd hj (Nat.not_lt_zero j), Or.inl rfl, rfl, rfl⟩
