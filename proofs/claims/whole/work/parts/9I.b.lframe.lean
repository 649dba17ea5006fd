/-! two worlds, side by side: behind a call -/
section PXG
variable {A0 : Nat → Prop} {D : va_G} {cl : List vw_C} {X cx wr rx X1 pl pl1 Rr L : va_W} {H H1 : Heap}
theorem px_aftL (hP : va_P D cl ((X ++ pl) ++ Rr) H) (hD : va_D A0 ((X ++ pl) ++ Rr)) (hAL : ∀ q, va_A (X ++ pl) H.size q → A0 q) (isC isR isX : List Nat) (hC : isC.map (fun i => X[i]?) = cx.map some) (hR : isR.map (fun i => X[i]?) = wr.map some) (hn : va_nd isR = true) (hdis : ∀ i ∈ isR, i ∉ isC) (hX : isX.map (fun i => (wr ++ rx)[i]?) = X1.map some) (hnX : va_nd isX = true) (hk : ∀ q : Nat, q < H.size → ¬ va_A (cx ++ pl) H.size q → H1[q]? = H[q]?) (hP1 : va_P D cl (rx ++ pl1) H1) (hD1 : va_D (va_A (cx ++ pl) H.size) (rx ++ pl1)) : va_P D cl ((X1 ++ pl1) ++ Rr) H1 ∧ va_D A0 ((X1 ++ pl1) ++ Rr) := by
  have hPL := px_left hP
  have hDL := px_leftD hD
  have hF := px_subA (pl := pl) (n := H.size) isC hC
  obtain ⟨hP2, hD2⟩ := va_joinP hPL (px_selfD H.size hDL) isC isR hC hR hn hdis hk hF hP1 hD1
  exact px_fr2 hP hD hk hF hAL (hP2.part isX hX) (hD2.part isX hnX hX)
theorem px_aftL0 (hP : va_P D cl ((X ++ pl) ++ Rr) H) (hD : va_D A0 ((X ++ pl) ++ Rr)) (hAL : ∀ q, va_A (X ++ pl) H.size q → A0 q) (isC isR isX : List Nat) (hC : isC.map (fun i => X[i]?) = cx.map some) (hR : isR.map (fun i => X[i]?) = wr.map some) (hn : va_nd isR = true) (hdis : ∀ i ∈ isR, i ∉ isC) (hX : isX.map (fun i => (wr ++ rx)[i]?) = X1.map some) (hnX : va_nd isX = true) (hk : ∀ q : Nat, q < H.size → ¬ va_A cx H.size q → H1[q]? = H[q]?) (hP1 : va_P D cl rx H1) (hD1 : va_D (va_A cx H.size) rx) : va_P D cl ((X1 ++ pl) ++ Rr) H1 ∧ va_D A0 ((X1 ++ pl) ++ Rr) := by
  have hPL := px_left hP
  have hDL := px_leftD hD
  have hF : ∀ q, va_A cx H.size q → va_A (X ++ pl) H.size q := fun q h => px_subA (pl := pl) (n := H.size) isC hC q (px_subA1 q h)
  obtain ⟨hP2, hD2⟩ := va_joinQ hPL (px_selfD H.size hDL) isC isR hC hR hn hdis hk hF hP1 hD1
  exact px_fr2 hP hD hk hF hAL (hP2.part isX hX) (hD2.part isX hnX hX)
theorem px_aftR (hP : va_P D cl (L ++ (X ++ pl)) H) (hD : va_D A0 (L ++ (X ++ pl))) (hAL : ∀ q, va_A (X ++ pl) H.size q → A0 q) (isC isR isX : List Nat) (hC : isC.map (fun i => X[i]?) = cx.map some) (hR : isR.map (fun i => X[i]?) = wr.map some) (hn : va_nd isR = true) (hdis : ∀ i ∈ isR, i ∉ isC) (hX : isX.map (fun i => (wr ++ rx)[i]?) = X1.map some) (hnX : va_nd isX = true) (hk : ∀ q : Nat, q < H.size → ¬ va_A (cx ++ pl) H.size q → H1[q]? = H[q]?) (hP1 : va_P D cl (rx ++ pl1) H1) (hD1 : va_D (va_A (cx ++ pl) H.size) (rx ++ pl1)) : va_P D cl (L ++ (X1 ++ pl1)) H1 ∧ va_D A0 (L ++ (X1 ++ pl1)) := by
  obtain ⟨h1, h2⟩ := px_aftL (px_commP hP) (px_commD hD) hAL isC isR isX hC hR hn hdis hX hnX hk hP1 hD1
  exact ⟨px_commP h1, px_commD h2⟩
theorem px_aftR0 (hP : va_P D cl (L ++ (X ++ pl)) H) (hD : va_D A0 (L ++ (X ++ pl))) (hAL : ∀ q, va_A (X ++ pl) H.size q → A0 q) (isC isR isX : List Nat) (hC : isC.map (fun i => X[i]?) = cx.map some) (hR : isR.map (fun i => X[i]?) = wr.map some) (hn : va_nd isR = true) (hdis : ∀ i ∈ isR, i ∉ isC) (hX : isX.map (fun i => (wr ++ rx)[i]?) = X1.map some) (hnX : va_nd isX = true) (hk : ∀ q : Nat, q < H.size → ¬ va_A cx H.size q → H1[q]? = H[q]?) (hP1 : va_P D cl rx H1) (hD1 : va_D (va_A cx H.size) rx) : va_P D cl (L ++ (X1 ++ pl)) H1 ∧ va_D A0 (L ++ (X1 ++ pl)) := by
  obtain ⟨h1, h2⟩ := px_aftL0 (px_commP hP) (px_commD hD) hAL isC isR isX hC hR hn hdis hX hnX hk hP1 hD1
  exact ⟨px_commP h1, px_commD h2⟩
end PXG
