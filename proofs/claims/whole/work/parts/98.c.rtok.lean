/-! PURE, texts: the reference's tokens: look, next, value, isName (r_ names are the reference's) -/
def t_lk (b : Nat → Int32) (L i : Nat) : Int32 := if i < L then b i else -1
/-- the reference's ints with a token -/
def r_tk (iv : Nat → Int32) (k f e : Int32) : Nat → Int32 := fun x => if x = 38 then k else if x = 39 then f else if x = 40 then e else iv x
theorem r_let {post : Int32 → Prop} {c : Int32} (h : post (if t_let c = true then 1 else 0)) : mil_wp post c := by
  unfold mil_wp mil_L12 mil_L28 mil_L24 mil_L29
  refine ⟨fun w1 => ⟨fun w2 => ⟨rfl, ?_⟩, fun w2 => ⟨fun w3 => ⟨rfl, ?_⟩, fun w3 => ⟨rfl, ?_⟩⟩⟩, fun w1 => ⟨fun w2 => ⟨rfl, ?_⟩, fun w2 => ⟨fun w3 => ⟨rfl, ?_⟩, fun w3 => ⟨fun w4 => ⟨rfl, ?_⟩, fun w4 => ⟨rfl, ?_⟩⟩⟩⟩⟩ <;> simpa [t_let, *] using h
theorem r_dig {post : Int32 → Prop} {c : Int32} (h : post (if t_dig c = true then 1 else 0)) : mid_wp post c := by
  unfold mid_wp mid_L16 mid_L17
  refine ⟨fun w1 => ⟨rfl, ?_⟩, fun w1 => ⟨fun w2 => ⟨rfl, ?_⟩, fun w2 => ⟨rfl, ?_⟩⟩⟩ <;> simpa [t_dig, *] using h
section RNX
variable {L : Nat} {b : Nat → Int32} {iv : Nat → Int32}
theorem r_look {post : Int32 → (Nat → Int32) → (Nat → Int32) → Prop} {i : Nat} {x : Int32} (hx : x = nI i) (hL : L ≤ 16384) (hi : i ≤ L) (h37 : iv 37 = nI L) (h : post (t_lk b L i) iv b) : mlk_wp post x iv b := by
  subst hx
  unfold mlk_wp mlk_L18
  rw [h37]
  refine ⟨fun w => ?_, fun w => ⟨?_, ?_⟩⟩
  · have : ¬ i < L := fun q => absurd w (nI_ge q (by omega))
    unfold t_lk at h
    rw [if_neg this] at h
    exact h
  · have : i < L := by
      by_cases q : i < L
      · exact q
      · exact absurd (nI_le (by omega) (by omega)) w
    exact b_in (by omega) (by omega)
  · have : i < L := by
      by_cases q : i < L
      · exact q
      · exact absurd (nI_le (by omega) (by omega)) w
    unfold t_lk at h
    rw [if_pos this] at h
    rw [nI_clamp (by omega)]
    exact h
theorem r_tkw {k0 f e : Int32} (i : Nat) : va_up (r_tk iv k0 f e) 40 (nI i) = r_tk iv k0 f (nI i) := by
  funext x
  unfold va_up r_tk
  by_cases w1 : x = 38 <;> by_cases w2 : x = 39 <;> by_cases w3 : x = 40 <;> simp [w1, w2, w3]
theorem r_nx129 {post : (Nat → Int32) → (Nat → Int32) → Prop} {x1 x2 : Int32} {k0 f : Int32} (hL : L ≤ 16384) (h37 : iv 37 = nI L) :
    ∀ (u i k : Nat), i + u = L → u < k → post (r_tk iv k0 f (nI (t_run t_let b u i))) b → mnx_L129 post k x1 x2 (r_tk iv k0 f (nI i)) b := by
  intro u
  induction u with
  | zero =>
    intro i k hi hk h
    obtain ⟨k, rfl⟩ : ∃ k', k = k' + 1 := ⟨k - 1, by omega⟩
    refine r_look (i := i) (L := L) rfl hL (by omega) h37 (r_let ⟨fun _ => h, fun w => ?_⟩)
    have : t_lk b L i = -1 := if_neg (by omega)
    rw [this] at w
    exact absurd (by decide) w
  | succ u ih =>
    intro i k hi hk h
    obtain ⟨k, rfl⟩ : ∃ k', k = k' + 1 := ⟨k - 1, by omega⟩
    have e0 : t_lk b L i = b i := if_pos (by omega)
    refine r_look (i := i) (L := L) rfl hL (by omega) h37 (r_let ?_)
    rw [e0]
    refine ⟨fun w => ?_, fun w z e => ?_⟩
    · have hb : ¬ t_let (b i) = true := fun q => by rw [if_pos q] at w; exact absurd w (by decide)
      have e : t_run t_let b (u + 1) i = i := by
        show (if _ then _ else _) = _
        rw [if_neg hb]
      rw [e] at h
      exact h
    · have hb : t_let (b i) = true := by
        cases q : t_let (b i)
        · rw [q] at w; exact absurd rfl w
        · rfl
      have e2 : t_run t_let b (u + 1) i = t_run t_let b u (i + 1) := by
        show (if _ then _ else _) = _
        rw [if_pos hb]
      rw [e2] at h
      have e3 : (r_tk iv k0 f (nI i)) 40 = nI i := rfl
      rw [e, e3, nI_1, r_tkw]
      exact ih (i + 1) k (by omega) (by omega) h
theorem r_nx186 {post : (Nat → Int32) → (Nat → Int32) → Prop} {x1 x2 : Int32} {k0 f e0 : Int32} {s : Nat} (hL : L ≤ 16384) (h37 : iv 37 = nI L) :
    ∀ (u i d k : Nat), i + u = L → s + d = i → u < k → post (r_tk iv (if 1 ≤ t_run t_dig b u i - s ∧ t_run t_dig b u i - s ≤ 3 then 2 else 3) f (nI (t_run t_dig b u i))) b → mnx_L186 post k x1 x2 (nI s) (nI d) (r_tk iv k0 f e0) b := by
  have fin : ∀ (i d : Nat), i ≤ L → s + d = i → post (r_tk iv (if 1 ≤ d ∧ d ≤ 3 then 2 else 3) f (nI i)) b → (nI d ≤ 0 → mnx_L222 post x1 x2 (nI s) (nI d) (r_tk iv k0 f e0) b) ∧ (¬ nI d ≤ 0 → (4 ≤ nI d → mnx_L222 post x1 x2 (nI s) (nI d) (r_tk iv k0 f e0) b) ∧ (¬ 4 ≤ nI d → mnx_L223 post x1 x2 (nI s) (nI d) 2 (r_tk iv k0 f e0) b)) := by
    intro i d hi hs h
    have key : ∀ y : Int32, y = (if 1 ≤ d ∧ d ≤ 3 then 2 else 3) → mnx_L223 post x1 x2 (nI s) (nI d) y (r_tk iv k0 f e0) b := by
      intro y ey z e
      show post _ b
      rw [e, nI_add, hs, ey]
      have : va_up (va_up (r_tk iv k0 f e0) 38 (if 1 ≤ d ∧ d ≤ 3 then 2 else 3)) 40 (nI i) = r_tk iv (if 1 ≤ d ∧ d ≤ 3 then 2 else 3) f (nI i) := by
        funext x
        unfold va_up r_tk
        by_cases w1 : x = 38 <;> by_cases w2 : x = 39 <;> by_cases w3 : x = 40 <;> simp [w1, w2, w3]
      rw [this]
      exact h
    refine ⟨fun w => key 3 ?_, fun w => ⟨fun w2 => key 3 ?_, fun w2 => key 2 ?_⟩⟩
    · rw [if_neg]
      intro q
      exact absurd w (nI_ge (a := 0) (b := d) (by omega) (by omega))
    · rw [if_neg]
      intro q
      exact absurd w2 (nI_ge (a := d) (b := 4) (by omega) (by omega))
    · rw [if_pos]
      refine ⟨?_, ?_⟩
      · by_cases q : 1 ≤ d
        · exact q
        · exact absurd (nI_le (a := d) (b := 0) (by omega) (by omega)) w
      · by_cases q : d ≤ 3
        · exact q
        · exact absurd (nI_le (a := 4) (b := d) (by omega) (by omega)) w2
  intro u
  induction u with
  | zero =>
    intro i d k hi hs hk h
    obtain ⟨k, rfl⟩ : ∃ k', k = k' + 1 := ⟨k - 1, by omega⟩
    rw [show t_run t_dig b 0 i = i from rfl, show i - s = d by omega] at h
    refine r_look (i := i) (L := L) (by rw [nI_add, hs]) hL (by omega) h37 (r_dig ⟨fun _ => fin i d (by omega) hs h, fun w => ?_⟩)
    have : t_lk b L i = -1 := if_neg (by omega)
    rw [this] at w
    exact absurd (by decide) w
  | succ u ih =>
    intro i d k hi hs hk h
    obtain ⟨k, rfl⟩ : ∃ k', k = k' + 1 := ⟨k - 1, by omega⟩
    have e0 : t_lk b L i = b i := if_pos (by omega)
    refine r_look (i := i) (L := L) (by rw [nI_add, hs]) hL (by omega) h37 (r_dig ?_)
    rw [e0]
    refine ⟨fun w => ?_, fun w z e => ?_⟩
    · have hb : ¬ t_dig (b i) = true := fun q => by rw [if_pos q] at w; exact absurd w (by decide)
      have e : t_run t_dig b (u + 1) i = i := by
        show (if _ then _ else _) = _
        rw [if_neg hb]
      rw [e, show i - s = d by omega] at h
      exact fin i d (by omega) hs h
    · have hb : t_dig (b i) = true := by
        cases q : t_dig (b i)
        · rw [q] at w; exact absurd rfl w
        · rfl
      have e2 : t_run t_dig b (u + 1) i = t_run t_dig b u (i + 1) := by
        show (if _ then _ else _) = _
        rw [if_pos hb]
      rw [e2] at h
      rw [e, nI_1]
      exact ih (i + 1) (d + 1) k (by omega) (by omega) (by omega) h
/-- at the token's first byte -/
theorem r_nxat {post : (Nat → Int32) → (Nat → Int32) → Prop} {i k : Nat} (hL : L ≤ 16384) (h37 : iv 37 = nI L) (hi : i ≤ L) (hb : t_j b L i < L → (b (t_j b L i) = 35) = False ∧ t_bl (b (t_j b L i)) = false) (h : post (r_tk iv (t_k b L i) (nI (t_j b L i)) (nI (t_e b L i))) b) : mnx_L11 post (k + 1) (nI (t_j b L i)) (t_lk b L (t_j b L i)) iv b := by
  have hj := t_jl (b := b) hi
  have ew : ∀ k e : Int32, va_up (va_up (va_up iv 39 (nI (t_j b L i))) 40 e) 38 k = r_tk iv k (nI (t_j b L i)) e := by
    intro k e
    funext x
    unfold va_up r_tk
    by_cases w1 : x = 38 <;> by_cases w2 : x = 39 <;> by_cases w3 : x = 40 <;> simp [w1, w2, w3]
  have ew0 : ∀ e : Int32, va_up (va_up iv 39 (nI (t_j b L i))) 40 e = r_tk iv (iv 38) (nI (t_j b L i)) e := by
    intro e
    funext x
    unfold va_up r_tk
    by_cases w1 : x = 38 <;> by_cases w2 : x = 39 <;> by_cases w3 : x = 40 <;> simp [w1, w2, w3]
  by_cases hjL : t_j b L i < L
  · obtain ⟨h35, hbl⟩ := hb hjL
    have e0 : t_lk b L (t_j b L i) = b (t_j b L i) := if_pos hjL
    rw [e0]
    unfold t_bl at hbl
    simp at hbl
    have hlt : nI (t_j b L i) < iv 37 := by rw [h37]; exact nI_lt hjL (by omega)
    refine ⟨fun w => absurd w hbl.1.1.1, fun _ => ⟨fun w => absurd w hbl.1.1.2, fun _ => ⟨fun w => absurd w hbl.1.2, fun _ => ⟨fun w => absurd w hbl.2, fun _ => ⟨fun _ z e => ⟨fun _ => r_let ⟨fun wl => ?_, fun wl => ?_⟩, fun w => absurd hlt w⟩, fun w => absurd w (by rw [h35]; exact id)⟩⟩⟩⟩⟩
    · have hl : ¬ t_let (b (t_j b L i)) = true := fun q => by rw [if_pos q] at wl; exact absurd wl (by decide)
      have num : (b (t_j b L i) = 45 ∨ t_dig (b (t_j b L i)) = true) → mnx_L169 post (nI (t_j b L i)) (b (t_j b L i)) (va_up (va_up iv 39 (nI (t_j b L i))) 40 z) b := by
        intro hn
        have ee : t_e b L i = t_run t_dig b (L - t_s b L i) (t_s b L i) := by
          unfold t_e
          rw [if_neg (by omega), if_neg hl, if_pos hn]
        have ek : t_k b L i = if 1 ≤ t_e b L i - t_s b L i ∧ t_e b L i - t_s b L i ≤ 3 then 2 else 3 := by
          unfold t_k
          rw [if_neg (by omega), if_neg hl, if_pos hn]
        rw [ek, ee] at h
        have hs := t_sl (b := b) (L := L) (i := i)
        refine ⟨fun w45 => ?_, fun w45 => ?_⟩
        · have es : t_s b L i = t_j b L i := if_neg w45
          rw [ew0]
          refine ⟨L - t_s b L i + 1, ?_⟩
          rw [← es]
          exact r_nx186 (s := t_s b L i) hL h37 (L - t_s b L i) (t_s b L i) 0 _ (by omega) rfl (by omega) (by rw [es] at h ⊢; exact h)
        · have es : t_s b L i = t_j b L i + 1 := if_pos w45
          rw [ew0, nI_1, ← es]
          exact ⟨L - t_s b L i + 1, r_nx186 (s := t_s b L i) hL h37 (L - t_s b L i) (t_s b L i) 0 _ (by omega) rfl (by omega) h⟩
      refine ⟨fun w45 => num (Or.inl w45), fun w45 => r_dig ⟨fun wd => ?_, fun wd => num (Or.inr ?_)⟩⟩
      · have hd : ¬ t_dig (b (t_j b L i)) = true := fun q => by rw [if_pos q] at wd; exact absurd wd (by decide)
        have hno : ¬ (b (t_j b L i) = 45 ∨ t_dig (b (t_j b L i)) = true) := fun q => q.elim w45 hd
        have ee : t_e b L i = t_j b L i + 1 := by
          unfold t_e
          rw [if_neg (by omega), if_neg hl, if_neg hno]
        have ek : t_k b L i = if t_mk (b (t_j b L i)) = true then b (t_j b L i) else 3 := by
          unfold t_k
          rw [if_neg (by omega), if_neg hl, if_neg hno]
        rw [ek, ee] at h
        have mark : t_mk (b (t_j b L i)) = true → mnx_L268 post (nI (t_j b L i)) (b (t_j b L i)) (va_up (va_up iv 39 (nI (t_j b L i))) 40 z) b := by
          intro hm
          rw [if_pos hm] at h
          show post (va_up (va_up (va_up iv 39 (nI (t_j b L i))) 40 z) 38 (b (t_j b L i))) b
          rw [ew, e, nI_1]
          exact h
        refine ⟨fun q => mark (by rw [q]; decide), fun q1 => ⟨fun q => mark (by rw [q]; decide), fun q2 => ⟨fun q => mark (by rw [q]; decide), fun q3 => ⟨fun q => mark (by rw [q]; decide), fun q4 => ⟨fun q5 => ?_, fun q => mark (by rw [q]; decide)⟩⟩⟩⟩⟩
        have hm : ¬ t_mk (b (t_j b L i)) = true := by unfold t_mk; simp [q1, q2, q3, q4, q5]
        rw [if_neg hm] at h
        show post (va_up (va_up (va_up iv 39 (nI (t_j b L i))) 40 z) 38 3) b
        rw [ew, e, nI_1]
        exact h
      · cases q : t_dig (b (t_j b L i))
        · rw [q] at wd; exact absurd rfl wd
        · rfl
    · have hl : t_let (b (t_j b L i)) = true := by
        cases q : t_let (b (t_j b L i))
        · rw [q] at wl; exact absurd rfl wl
        · rfl
      have ee : t_e b L i = t_run t_let b (L - (t_j b L i + 1)) (t_j b L i + 1) := by
        unfold t_e
        rw [if_neg (by omega), if_pos hl]
      have ek : t_k b L i = 1 := by
        unfold t_k
        rw [if_neg (by omega), if_pos hl]
      rw [ek, ee] at h
      rw [ew, e, nI_1]
      exact ⟨L - (t_j b L i + 1) + 1, r_nx129 hL h37 (L - (t_j b L i + 1)) (t_j b L i + 1) _ (by omega) (by omega) h⟩
  · have e0 : t_lk b L (t_j b L i) = -1 := if_neg hjL
    rw [e0]
    have ee : t_e b L i = t_j b L i := if_pos (by omega)
    have ek : t_k b L i = 0 := if_pos (by omega)
    rw [ek, ee] at h
    refine ⟨fun w => absurd w (by decide), fun _ => ⟨fun w => absurd w (by decide), fun _ => ⟨fun w => absurd w (by decide), fun _ => ⟨fun w => absurd w (by decide), fun _ => ⟨fun _ z e => ⟨fun w => ?_, fun _ => ?_⟩, fun w => absurd w (by decide)⟩⟩⟩⟩⟩
    · rw [h37] at w
      exact absurd w (nI_nlt (by omega) (by omega))
    · show post (va_up (va_up (va_up (va_up iv 39 (nI (t_j b L i))) 40 z) 38 0) 40 (nI (t_j b L i))) b
      rw [ew, r_tkw]
      exact h
theorem t_skb (b : Nat → Int32) : ∀ (u : Nat) (cm : Bool) (i : Nat), t_sk b u cm i < i + u → ¬ b (t_sk b u cm i) = 35 ∧ t_bl (b (t_sk b u cm i)) = false
  | 0, _, i, h => by
    have : t_sk b 0 ‹_› i = i := rfl
    omega
  | u + 1, cm, i, h => by
    unfold t_sk at h ⊢
    split
    · rename_i h1
      rw [if_pos h1] at h
      exact t_skb b u true (i + 1) (by omega)
    · rename_i h1
      rw [if_neg h1] at h
      split
      · rename_i h2
        rw [if_pos h2] at h
        exact t_skb b u false (i + 1) (by omega)
      · rename_i h2
        refine ⟨fun q => h1 (by rw [q]; simp), ?_⟩
        simpa using h2
theorem r_next {post : (Nat → Int32) → (Nat → Int32) → Prop} {i : Nat} (hL : L ≤ 16384) (h37 : iv 37 = nI L) (h40 : iv 40 = nI i) (hi : i ≤ L) (h : post (r_tk iv (t_k b L i) (nI (t_j b L i)) (nI (t_e b L i))) b) : mnx_wp post iv b := by
  intro z13 e13
  rw [h40] at e13
  rw [e13]
  have hskb : t_j b L i < L → (b (t_j b L i) = 35) = False ∧ t_bl (b (t_j b L i)) = false := by
    intro q
    have := t_skb b (L - i) false i (by unfold t_j at q; omega)
    exact ⟨eq_false this.1, this.2⟩
  have main : ∀ (u p k : Nat), p + u = L → u < k → t_sk b u false p = t_j b L i → mnx_L11 post k (nI p) (t_lk b L p) iv b := by
    intro u
    induction u using Nat.strongRecOn with
    | _ u ih =>
      intro p k hp hk hs
      obtain ⟨k, rfl⟩ : ∃ k', k = k' + 1 := ⟨k - 1, by omega⟩
      by_cases hpj : p = t_j b L i
      · rw [hpj]
        exact r_nxat hL h37 hi hskb h
      · cases u with
        | zero => exact absurd hs hpj
        | succ u =>
          have e0 : t_lk b L p = b p := if_pos (by omega)
          rw [e0]
          unfold t_sk at hs
          have K : ∀ (p' u' : Nat), p' + u' = L → u' < u + 1 → t_sk b u' false p' = t_j b L i → ∀ x2 : Int32, mnx_L75 (mnx_L11 post k) post (nI p') x2 iv b := by
            intro p' u' h1 h2 h3 x2
            exact r_look (i := p') (L := L) rfl hL (by omega) h37 (ih u' h2 p' k h1 (by omega) h3)
          have go : (b p = 35 ∨ t_bl (b p) = true) → mnx_L41 (mnx_L11 post k) post (nI p) (b p) iv b := by
            intro hc
            refine ⟨fun w z e => ?_, fun w => ⟨u + 2, ?_⟩⟩
            · have hb : t_bl (b p) = true := by
                rcases hc with q | q
                · exact absurd q w
                · exact q
              rw [if_neg (by simp [w]), if_pos hb] at hs
              rw [e, nI_1]
              exact K (p + 1) u (by omega) (by omega) hs _
            · rw [if_pos (by rw [w]; rfl)] at hs
              -- the comment
              have cm : ∀ (v q : Nat), q + v = L → v ≤ u → t_sk b v true q = t_j b L i → mnx_L47 (mnx_L11 post k) post (v + 1) (nI q) (b p) iv b := by
                intro v
                induction v with
                | zero =>
                  intro q hq hv hsq
                  refine ⟨fun _ => K q 0 hq (by omega) hsq _, fun w => ?_⟩
                  rw [h37] at w
                  exact absurd (nI_le (by omega) (by omega)) w
                | succ v ihv =>
                  intro q hq hv hsq
                  have hsq' : (if (decide (b q = 35) || (true && !decide (b q = 10))) = true then t_sk b v true (q + 1) else if t_bl (b q) = true then t_sk b v false (q + 1) else q) = t_j b L i := hsq
                  refine ⟨fun w => ?_, fun _ => ⟨b_in (by omega) (by omega), ?_⟩⟩
                  · rw [h37] at w
                    exact absurd w (nI_ge (by omega) (by omega))
                  · rw [nI_clamp (by omega)]
                    refine ⟨fun w10 => ?_, fun w10 z e => ?_⟩
                    · refine K q (v + 1) hq (by omega) ?_ _
                      show (if (decide (b q = 35) || (false && !decide (b q = 10))) = true then t_sk b v true (q + 1) else if t_bl (b q) = true then t_sk b v false (q + 1) else q) = _
                      rw [if_neg (by rw [w10]; decide)] at hsq' ⊢
                      exact hsq'
                    · rw [if_pos (by simp [w10])] at hsq'
                      rw [e, nI_1]
                      exact ihv (q + 1) (by omega) (by omega) hsq'
              refine ⟨fun w' => ?_, fun _ => ⟨b_in (by omega) (by omega), ?_⟩⟩
              · rw [h37] at w'
                exact absurd w' (nI_ge (by omega) (by omega))
              · rw [nI_clamp (by omega)]
                refine ⟨fun w10 => ?_, fun w10 z e => ?_⟩
                · rw [w] at w10
                  exact absurd w10 (by decide)
                · rw [e, nI_1]
                  exact cm u (p + 1) (by omega) (Nat.le_refl _) hs
          have hc : b p = 35 ∨ t_bl (b p) = true := by
            by_cases q : b p = 35
            · exact Or.inl q
            · right
              cases q2 : t_bl (b p) with
              | true => rfl
              | false =>
                rw [if_neg (by simp [q]), if_neg (by rw [q2]; decide)] at hs
                exact absurd hs hpj
          have g := go hc
          refine ⟨fun _ => g, fun w1 => ⟨fun _ => g, fun w2 => ⟨fun _ => g, fun w3 => ⟨fun _ => g, fun w4 => ⟨fun w5 => ?_, fun _ => g⟩⟩⟩⟩⟩
          exfalso
          rcases hc with q | q
          · exact w5 q
          · unfold t_bl at q
            simp [w1, w2, w3, w4] at q
  exact r_look (i := i) (L := L) rfl hL hi h37 ⟨L - i + 1, main (L - i) i _ (by omega) (by omega) rfl⟩
end RNX
