/-! The constructor of RoofNet: by program (wip/whole/mk_con6.py). -/
abbrev bX7 : List Value := [.null, .null, .null, .null, .null, .null, .null, .null]
def R0c (i j : Nat) : Nat := if i = 0 then ([1, 3, 5, 7, 17, 18, 24, 31] : List Nat).getD j 0 else if i = 1 then 2 else if i = 3 then 4 else if i = 5 then 6 else if i = 6 then 45 + 7 * j else if i = 17 then (if j = 0 then 38 else 87) else if i = 18 then ([19, 20, 21, 22, 0, 0, 0, 23] : List Nat).getD j 0 else if i = 7 then 8 + j else if i = 87 then 88 + j else if i = 9 then 12 + j else if i = 89 then 92 + j else i + (j - 5)
def h0c : Hp := (fun _ _ => 0, fun i j => if i = 7 then (if j = 5 then 1 else 0) else if i = 87 then (if j = 5 then 1 else 0) else 0, R0c)
theorem R0c_ok : ROk R0c := by
  refine ⟨fun n hn => ?_, fun s hs => ?_, ⟨rfl, rfl, rfl, rfl, rfl, rfl⟩, ⟨rfl, rfl, rfl, fun i _ => rfl⟩, ⟨rfl, rfl⟩, ⟨rfl, rfl, rfl, rfl, rfl⟩⟩
  · have e : ∀ j, R0c n j = n + (j - 5) := fun j => by
      unfold R0c
      rw [if_neg (by omega), if_neg (by omega), if_neg (by omega), if_neg (by omega), if_neg (by omega), if_neg (by omega), if_neg (by omega), if_neg (by omega), if_neg (by omega), if_neg (by omega), if_neg (by omega)]
    refine ⟨e 6, e 7, e 8, e 9, e 10, e 11⟩
  · rcases hs with rfl | rfl
    · exact ⟨rfl, rfl, rfl, rfl, fun i _ => rfl⟩
    · exact ⟨rfl, rfl, rfl, rfl, fun i _ => rfl⟩
def ad7 (a0 : Nat) (adl adr adp ads adt adc adn adf : Nat → Nat) (i : Nat) : Nat := if i = 0 then a0 else if i < 3 then adl (i - 1) else if i < 5 then adr (i - 3) else if i < 7 then adp (i - 5) else if i < 17 then ads (i - 7) else if i = 17 then adt 0 else if i < 24 then adc (i - 18) else if i < 31 then adn (i - 24) else if i < 38 then adf (i - 31) else if i < 45 then adt (i - 37) else if i < 87 then adp (i - 43) else adt (i - 79)
def AdL (w : va_W) (n : Nat) (f : Nat → Nat) : Prop := w.length = n ∧ ∀ k, k < n → ∃ e, w[k]? = some (f k, e)
theorem AdL.app {w w' : va_W} {n n' : Nat} {f f' : Nat → Nat} (a : AdL w n f) (b : AdL w' n' f') : AdL (w ++ w') (n + n') (fun k => if k < n then f k else f' (k - n)) := by
  obtain ⟨a1, a2⟩ := a
  obtain ⟨b1, b2⟩ := b
  refine ⟨by rw [List.length_append, a1, b1], fun k hk => ?_⟩
  by_cases q : k < n
  · obtain ⟨e, he⟩ := a2 k q
    exact ⟨e, by rw [List.getElem?_append_left (by omega), he]; show some (f k, e) = some (if k < n then f k else f' (k - n), e); rw [if_pos q]⟩
  · obtain ⟨e, he⟩ := b2 (k - n) (by omega)
    exact ⟨e, by rw [List.getElem?_append_right (by omega), a1, he]; show some (f' (k - n), e) = some (if k < n then f k else f' (k - n), e); rw [if_neg q]⟩
theorem AdL.to {w : va_W} {n : Nat} {f g : Nat → Nat} (a : AdL w n f) (h : ∀ k, k < n → f k = g k) : AdL w n g := ⟨a.1, fun k hk => by rw [← h k hk]; exact a.2 k hk⟩
theorem D_map {A : Nat → Prop} {Ly : Lay} {cy : Nat → ClassId} {ad : Nat → Nat} {h : Hp} {w : va_W} {n : Nat} {f : Nat → Nat} (hD : va_D A w) (a : AdL w n f) (g : Nat → Nat) (hg : ∀ i, i < Ly.2.length → g i < n ∧ ad i = f (g i)) (hi : ∀ i j, i < Ly.2.length → j < Ly.2.length → g i = g j → i = j) : va_D A (lws Ly cy ad h) := by
  have key : ∀ (k : Nat) (q : Nat × va_E), (lws Ly cy ad h)[k]? = some q → k < Ly.2.length ∧ ∃ e, w[g k]? = some (q.1, e) := by
    intro k q hk
    have hl : k < Ly.2.length := by
      have := (List.getElem?_eq_some_iff.mp hk).1
      rwa [lws_len] at this
    rw [lws_get (List.getElem?_eq_getElem hl)] at hk
    cases hk
    obtain ⟨h1, h2⟩ := hg k hl
    obtain ⟨e, he⟩ := a.2 (g k) h1
    exact ⟨hl, e, by show _ = some (ad k, e); rw [h2]; exact he⟩
  refine ⟨fun i j x y hx hy hxy => ?_, fun k q hk => ?_⟩
  · obtain ⟨i1, e1, x1⟩ := key i x hx
    obtain ⟨j1, e2, y1⟩ := key j y hy
    exact hi i j i1 j1 (hD.1 _ _ _ _ x1 y1 hxy)
  · obtain ⟨_, e1, x1⟩ := key k q hk
    exact hD.2 _ (q.1, e1) x1
theorem wNet_c {cy a b : Nat → Nat} (e : ∀ i, i < 7 → a i = b i) : wNet cy a = wNet cy b := by
  simp only [wNet, e 0 (by decide), e 1 (by decide), e 2 (by decide), e 3 (by decide), e 4 (by decide), e 5 (by decide), e 6 (by decide)]
theorem P_l {D : va_G} {w w' : va_W} {H : Heap} (h : va_P D vwCl (w ++ w') H) : va_P D vwCl w H := fun k x hk => h k x (by rw [List.getElem?_append_left (List.getElem?_eq_some_iff.mp hk).1]; exact hk)
theorem P_r {D : va_G} {w w' : va_W} {H : Heap} (h : va_P D vwCl (w ++ w') H) : va_P D vwCl w' H := fun k x hk => h (w.length + k) x (by rw [List.getElem?_append_right (by omega), Nat.add_sub_cancel_left]; exact hk)
theorem aI0 {cA : ClassId} {n : Nat} {f : Nat → Int} (z : ∀ j, f j = 0) : (Sum.inl (cA, n, Sum.inl (fun _ => Int32.ofInt 0)) : va_E) = Sum.inl (cA, n, Sum.inl (fun k => Int32.ofInt (f k))) := by
  rw [show f = fun _ => 0 from funext z]
theorem aL0 {cA : ClassId} {n : Nat} {f : Nat → Int} (z : ∀ j, f j = 0) : (Sum.inl (cA, n, Sum.inr (Sum.inl (fun _ => Int64.ofInt 0))) : va_E) = Sum.inl (cA, n, Sum.inr (Sum.inl (fun k => Int64.ofInt (f k)))) := by
  rw [show f = fun _ => 0 from funext z]
theorem at_e {D : va_G} {a : Nat} {e e' : va_E} {H : Heap} (q : e = e') (h : va_at D vwCl (a, e) H) : va_at D vwCl (a, e') H := q ▸ h
theorem blkNet {D : va_G} {cy ad : Nat → Nat} {H : Heap} {h : Hp} {n : Nat} (hn : isNet n) (hR : ROk h.2.2) (hz : ∀ i, n ≤ i → i ≤ n + 6 → ∀ j, h.1 i j = 0) (w : va_P D vwCl (wNet cy (fun i => ad (n + i))) H) : ∀ k, k < 7 → ∃ d, cLy.2[n + k]? = some d ∧ va_at D vwCl (ad (n + k), lce cLy.1 cy ad h (n + k) d) H := by
  have ar : ∀ k m, 1 ≤ k → k ≤ 6 → (Sum.inl (cy 0, m, Sum.inl (fun _ => Int32.ofInt 0)) : va_E) = lce cLy.1 cy ad h (n + k) (.inr (0, m)) := fun k m h1 h2 => aI0 (f := h.1 (n + k)) (hz (n + k) (by omega) (by omega))
  intro k hk
  match k, hk with
  | 0, _ =>
    refine ⟨_, lyN0 hn, at_e ?_ (w 0 _ rfl)⟩
    show (Sum.inr (2, [iv 0, iv 0, iv 0, iv 0, iv 0, iv 0, .ref (ad (n + 1)), .ref (ad (n + 2)), .ref (ad (n + 3)), .ref (ad (n + 4)), .ref (ad (n + 5)), .ref (ad (n + 6))]) : va_E) = Sum.inr (2, [iv (h.1 n 0), iv (h.1 n 1), iv (h.1 n 2), iv (h.1 n 3), iv (h.1 n 4), iv (h.1 n 5), .ref (ad (h.2.2 n 6)), .ref (ad (h.2.2 n 7)), .ref (ad (h.2.2 n 8)), .ref (ad (h.2.2 n 9)), .ref (ad (h.2.2 n 10)), .ref (ad (h.2.2 n 11))])
    rw [hz n (Nat.le_refl _) (by omega) 0, hz n (Nat.le_refl _) (by omega) 1, hz n (Nat.le_refl _) (by omega) 2, hz n (Nat.le_refl _) (by omega) 3, hz n (Nat.le_refl _) (by omega) 4, hz n (Nat.le_refl _) (by omega) 5, rN6 hR hn, rN7 hR hn, rN8 hR hn, rN9 hR hn, rN10 hR hn, rN11 hR hn]
  | 1, _ => exact ⟨_, lyN1 hn, at_e (ar 1 30 (by omega) (by omega)) (w 1 _ rfl)⟩
  | 2, _ => exact ⟨_, lyN2 hn, at_e (ar 2 10 (by omega) (by omega)) (w 2 _ rfl)⟩
  | 3, _ => exact ⟨_, lyN3 hn, at_e (ar 3 14 (by omega) (by omega)) (w 3 _ rfl)⟩
  | 4, _ => exact ⟨_, lyN4 hn, at_e (ar 4 14 (by omega) (by omega)) (w 4 _ rfl)⟩
  | 5, _ => exact ⟨_, lyN5 hn, at_e (ar 5 14 (by omega) (by omega)) (w 5 _ rfl)⟩
  | 6, _ => exact ⟨_, lyN6 hn, at_e (ar 6 14 (by omega) (by omega)) (w 6 _ rfl)⟩
  | k + 7, hk => exact absurd hk (by omega)
theorem blkShp {D : va_G} {cy ad ad' : Nat → Nat} {H : Heap} {h : Hp} {s : Nat} {f : Nat → Option Nat} (hs : isShp s) (hR : ROk h.2.2) (hz : ∀ i, s ≤ i → i ≤ s + 9 → ∀ j, h.1 i j = 0) (h5 : h.2.1 s 5 = 1) (hl : ∀ i, s + 5 ≤ i → i ≤ s + 9 → ∀ j, h.2.1 i j = 0) (hf : ∀ k, k < 5 → f k = some (ad (s + 5 + k))) (he : ∀ i, i < 10 → ad' i = ad (s + i)) (w : va_P D vwCl (wShpF cy ad' f) H) : ∀ k, k < 10 → ∃ d, cLy.2[s + k]? = some d ∧ va_at D vwCl (ad (s + k), lce cLy.1 cy ad h (s + k) d) H := by
  have ar : ∀ k m, 1 ≤ k → k ≤ 9 → (Sum.inl (cy 0, m, Sum.inl (fun _ => Int32.ofInt 0)) : va_E) = lce cLy.1 cy ad h (s + k) (.inr (0, m)) := fun k m h1 h2 => aI0 (f := h.1 (s + k)) (hz (s + k) (by omega) (by omega))
  have lr : ∀ k, 5 ≤ k → k ≤ 9 → (Sum.inl (cy 1, 8, Sum.inr (Sum.inl (fun _ => Int64.ofInt 0))) : va_E) = lce cLy.1 cy ad h (s + k) (.inr (1, 8)) := fun k h1 h2 => aL0 (f := h.2.1 (s + k)) (hl (s + k) (by omega) (by omega))
  have ly : ∀ k, k < 10 → cLy.2[s + k]? = shpC[k]? := fun k hk => lyShp hs k hk
  intro k hk
  match k, hk with
  | 0, _ =>
    refine ⟨_, lyS0 hs, at_e ?_ (by rw [← he 0 (by decide)]; exact w 0 _ rfl)⟩
    show (Sum.inr (4, [.ref (ad' 1), .ref (ad' 2), .ref (ad' 3), .ref (ad' 4), iv 0, jv 1]) : va_E) = Sum.inr (4, [.ref (ad (h.2.2 s 0)), .ref (ad (h.2.2 s 1)), .ref (ad (h.2.2 s 2)), .ref (ad (h.2.2 s 3)), iv (h.1 s 4), jv (h.2.1 s 5)])
    rw [hz s (Nat.le_refl _) (by omega) 4, h5, rS0 hR hs, rS1 hR hs, rS2 hR hs, rS3 hR hs, he 1 (by decide), he 2 (by decide), he 3 (by decide), he 4 (by decide)]
  | 1, _ => exact ⟨_, ly 1 (by decide), at_e (ar 1 10 (by omega) (by omega)) (by rw [← he 1 (by decide)]; exact w 1 _ rfl)⟩
  | 2, _ => exact ⟨_, ly 2 (by decide), at_q (f := f) (fun k hk => by rw [hf k hk]; show _ = some (ad (h.2.2 (s + 2) k)); rw [rSr hR hs hk]) (by rw [← he 2 (by decide)]; exact w 2 _ rfl)⟩
  | 3, _ => exact ⟨_, ly 3 (by decide), at_e (ar 3 30 (by omega) (by omega)) (by rw [← he 3 (by decide)]; exact w 3 _ rfl)⟩
  | 4, _ => exact ⟨_, ly 4 (by decide), at_e (ar 4 14 (by omega) (by omega)) (by rw [← he 4 (by decide)]; exact w 4 _ rfl)⟩
  | 5, _ => exact ⟨_, ly 5 (by decide), at_e (lr 5 (by omega) (by omega)) (by rw [← he 5 (by decide)]; exact w 5 _ rfl)⟩
  | 6, _ => exact ⟨_, ly 6 (by decide), at_e (lr 6 (by omega) (by omega)) (by rw [← he 6 (by decide)]; exact w 6 _ rfl)⟩
  | 7, _ => exact ⟨_, ly 7 (by decide), at_e (lr 7 (by omega) (by omega)) (by rw [← he 7 (by decide)]; exact w 7 _ rfl)⟩
  | 8, _ => exact ⟨_, ly 8 (by decide), at_e (lr 8 (by omega) (by omega)) (by rw [← he 8 (by decide)]; exact w 8 _ rfl)⟩
  | 9, _ => exact ⟨_, ly 9 (by decide), at_e (lr 9 (by omega) (by omega)) (by rw [← he 9 (by decide)]; exact w 9 _ rfl)⟩
  | k + 10, hk => exact absurd hk (by omega)
section AD7
variable {a0 : Nat} {adl adr adp ads adt adc adn adf : Nat → Nat}
theorem ad7_0 {i : Nat} (h1 : 0 ≤ i) (h2 : i < 1) : ad7 a0 adl adr adp ads adt adc adn adf i = a0 := by
  unfold ad7
  rw [if_pos (by omega)]
theorem ad7_1 {i : Nat} (h1 : 1 ≤ i) (h2 : i < 3) : ad7 a0 adl adr adp ads adt adc adn adf i = adl (i - 1) := by
  unfold ad7
  rw [if_neg (by omega), if_pos (by omega)]
theorem ad7_2 {i : Nat} (h1 : 3 ≤ i) (h2 : i < 5) : ad7 a0 adl adr adp ads adt adc adn adf i = adr (i - 3) := by
  unfold ad7
  rw [if_neg (by omega), if_neg (by omega), if_pos (by omega)]
theorem ad7_3 {i : Nat} (h1 : 5 ≤ i) (h2 : i < 7) : ad7 a0 adl adr adp ads adt adc adn adf i = adp (i - 5) := by
  unfold ad7
  rw [if_neg (by omega), if_neg (by omega), if_neg (by omega), if_pos (by omega)]
theorem ad7_4 {i : Nat} (h1 : 7 ≤ i) (h2 : i < 17) : ad7 a0 adl adr adp ads adt adc adn adf i = ads (i - 7) := by
  unfold ad7
  rw [if_neg (by omega), if_neg (by omega), if_neg (by omega), if_neg (by omega), if_pos (by omega)]
theorem ad7_5 {i : Nat} (h1 : 17 ≤ i) (h2 : i < 18) : ad7 a0 adl adr adp ads adt adc adn adf i = adt 0 := by
  unfold ad7
  rw [if_neg (by omega), if_neg (by omega), if_neg (by omega), if_neg (by omega), if_neg (by omega), if_pos (by omega)]
theorem ad7_6 {i : Nat} (h1 : 18 ≤ i) (h2 : i < 24) : ad7 a0 adl adr adp ads adt adc adn adf i = adc (i - 18) := by
  unfold ad7
  rw [if_neg (by omega), if_neg (by omega), if_neg (by omega), if_neg (by omega), if_neg (by omega), if_neg (by omega), if_pos (by omega)]
theorem ad7_7 {i : Nat} (h1 : 24 ≤ i) (h2 : i < 31) : ad7 a0 adl adr adp ads adt adc adn adf i = adn (i - 24) := by
  unfold ad7
  rw [if_neg (by omega), if_neg (by omega), if_neg (by omega), if_neg (by omega), if_neg (by omega), if_neg (by omega), if_neg (by omega), if_pos (by omega)]
theorem ad7_8 {i : Nat} (h1 : 31 ≤ i) (h2 : i < 38) : ad7 a0 adl adr adp ads adt adc adn adf i = adf (i - 31) := by
  unfold ad7
  rw [if_neg (by omega), if_neg (by omega), if_neg (by omega), if_neg (by omega), if_neg (by omega), if_neg (by omega), if_neg (by omega), if_neg (by omega), if_pos (by omega)]
theorem ad7_9 {i : Nat} (h1 : 38 ≤ i) (h2 : i < 45) : ad7 a0 adl adr adp ads adt adc adn adf i = adt (i - 37) := by
  unfold ad7
  rw [if_neg (by omega), if_neg (by omega), if_neg (by omega), if_neg (by omega), if_neg (by omega), if_neg (by omega), if_neg (by omega), if_neg (by omega), if_neg (by omega), if_pos (by omega)]
theorem ad7_10 {i : Nat} (h1 : 45 ≤ i) (h2 : i < 87) : ad7 a0 adl adr adp ads adt adc adn adf i = adp (i - 43) := by
  unfold ad7
  rw [if_neg (by omega), if_neg (by omega), if_neg (by omega), if_neg (by omega), if_neg (by omega), if_neg (by omega), if_neg (by omega), if_neg (by omega), if_neg (by omega), if_neg (by omega), if_pos (by omega)]
theorem ad7_11 {i : Nat} (h1 : 87 ≤ i) (h2 : i < 97) : ad7 a0 adl adr adp ads adt adc adn adf i = adt (i - 79) := by
  unfold ad7
  rw [if_neg (by omega), if_neg (by omega), if_neg (by omega), if_neg (by omega), if_neg (by omega), if_neg (by omega), if_neg (by omega), if_neg (by omega), if_neg (by omega), if_neg (by omega), if_neg (by omega)]
end AD7
section CON7
variable {D : va_G} {cy : Nat → ClassId} {H : Heap} {a0 : Nat} {adl adr adp ads adt adc adn adf : Nat → Nat}
set_option maxHeartbeats 1000000 in
theorem con7_P (hP : va_P D vwCl ([(a0, .inr (7, [.ref (adl 0), .ref (adr 0), .ref (adp 0), .ref (ads 0), .ref (adt 0), .ref (adc 0), .ref (adn 0), .ref (adf 0)]))] ++ wLet cy adl ++ wRdr cy adr ++ wPst cy adp ++ wShp cy ads ++ wTri cy adt ++ wCut cy adc ++ wNet cy adn ++ wNet cy adf) H) : va_P D vwCl (lws cLy cy (ad7 a0 adl adr adp ads adt adc adn adf) h0c) H := by
  have hf := P_r hP
  have h_adn := P_r (P_l hP)
  have h_adc := P_r (P_l (P_l hP))
  have h_adt := P_r (P_l (P_l (P_l hP)))
  have h_ads := P_r (P_l (P_l (P_l (P_l hP))))
  have h_adp := P_r (P_l (P_l (P_l (P_l (P_l hP)))))
  have h_adr := P_r (P_l (P_l (P_l (P_l (P_l (P_l hP))))))
  have h_adl := P_r (P_l (P_l (P_l (P_l (P_l (P_l (P_l hP)))))))
  have h_o := P_l (P_l (P_l (P_l (P_l (P_l (P_l (P_l hP)))))))
  clear hP
  have hR : ROk h0c.2.2 := R0c_ok
  have hz : ∀ i j, h0c.1 i j = 0 := fun _ _ => rfl
  have hl0 : ∀ i, i ≠ 7 → i ≠ 87 → ∀ j, h0c.2.1 i j = 0 := fun i a b j => by show (if i = 7 then (if j = 5 then 1 else 0) else if i = 87 then (if j = 5 then 1 else 0) else 0 : Int) = 0; rw [if_neg a, if_neg b]
  have n24 := blkNet (ad := ad7 a0 adl adr adp ads adt adc adn adf) (h := h0c) (n := 24) (by decide) hR (fun i _ _ j => hz i j) (by rw [← wNet_c (a := adn) (fun i hi => by rw [ad7_7 (by omega) (by omega), Nat.add_sub_cancel_left])]; exact h_adn)
  have n31 := blkNet (ad := ad7 a0 adl adr adp ads adt adc adn adf) (h := h0c) (n := 31) (by decide) hR (fun i _ _ j => hz i j) (by rw [← wNet_c (a := adf) (fun i hi => by rw [ad7_8 (by omega) (by omega), Nat.add_sub_cancel_left])]; exact hf)
  have n38 := blkNet (ad := ad7 a0 adl adr adp ads adt adc adn adf) (h := h0c) (n := 38) (by decide) hR (fun i _ _ j => hz i j) (by rw [← wNet_c (a := fun i => adt (1 + i)) (fun i hi => by rw [ad7_9 (by omega) (by omega)]; congr 1; omega)]; exact P_r (P_l h_adt))
  have hp2 := P_tl (P_tl h_adp)
  have n80 := blkNet (ad := ad7 a0 adl adr adp ads adt adc adn adf) (h := h0c) (n := 80) (by decide) hR (fun i _ _ j => hz i j) (by rw [← wNet_c (a := fun i => adp (37 + i)) (fun i hi => by rw [ad7_10 (by omega) (by omega)]; congr 1; omega)]; exact P_r (hp2))
  have n73 := blkNet (ad := ad7 a0 adl adr adp ads adt adc adn adf) (h := h0c) (n := 73) (by decide) hR (fun i _ _ j => hz i j) (by rw [← wNet_c (a := fun i => adp (30 + i)) (fun i hi => by rw [ad7_10 (by omega) (by omega)]; congr 1; omega)]; exact P_r (P_l (hp2)))
  have n66 := blkNet (ad := ad7 a0 adl adr adp ads adt adc adn adf) (h := h0c) (n := 66) (by decide) hR (fun i _ _ j => hz i j) (by rw [← wNet_c (a := fun i => adp (23 + i)) (fun i hi => by rw [ad7_10 (by omega) (by omega)]; congr 1; omega)]; exact P_r (P_l (P_l (hp2))))
  have n59 := blkNet (ad := ad7 a0 adl adr adp ads adt adc adn adf) (h := h0c) (n := 59) (by decide) hR (fun i _ _ j => hz i j) (by rw [← wNet_c (a := fun i => adp (16 + i)) (fun i hi => by rw [ad7_10 (by omega) (by omega)]; congr 1; omega)]; exact P_r (P_l (P_l (P_l (hp2)))))
  have n52 := blkNet (ad := ad7 a0 adl adr adp ads adt adc adn adf) (h := h0c) (n := 52) (by decide) hR (fun i _ _ j => hz i j) (by rw [← wNet_c (a := fun i => adp (9 + i)) (fun i hi => by rw [ad7_10 (by omega) (by omega)]; congr 1; omega)]; exact P_r (P_l (P_l (P_l (P_l (hp2))))))
  have n45 := blkNet (ad := ad7 a0 adl adr adp ads adt adc adn adf) (h := h0c) (n := 45) (by decide) hR (fun i _ _ j => hz i j) (by rw [← wNet_c (a := fun i => adp (2 + i)) (fun i hi => by rw [ad7_10 (by omega) (by omega)]; congr 1; omega)]; exact P_l (P_l (P_l (P_l (P_l (hp2))))))
  have s7 := blkShp (ad := ad7 a0 adl adr adp ads adt adc adn adf) (h := h0c) (s := 7) (Or.inl rfl) hR (fun i _ _ j => hz i j) rfl (fun i a b => hl0 i (by omega) (by omega)) (fun k hk => by show some (ads (5 + k)) = _; rw [ad7_4 (by omega) (by omega)]; congr 2; omega) (fun i hi => by rw [ad7_4 (by omega) (by omega), Nat.add_sub_cancel_left]) h_ads
  have s87 := blkShp (ad := ad7 a0 adl adr adp ads adt adc adn adf) (h := h0c) (s := 87) (Or.inr rfl) hR (fun i _ _ j => hz i j) rfl (fun i a b => hl0 i (by omega) (by omega)) (fun k hk => by show some (adt (8 + (5 + k))) = _; rw [ad7_11 (by omega) (by omega)]; congr 2; omega) (fun i hi => by show adt (8 + i) = _; rw [ad7_11 (by omega) (by omega)]; congr 1; omega) (P_r h_adt)
  have ht0 := P_l (P_l h_adt)
  clear h_adn hf h_adt hp2 h_ads
  refine P_of (fun id hi => ?_)
  have hi : id < 97 := hi
  have us : ∀ n k, (∃ d, cLy.2[n + k]? = some d ∧ va_at D vwCl (ad7 a0 adl adr adp ads adt adc adn adf (n + k), lce cLy.1 cy (ad7 a0 adl adr adp ads adt adc adn adf) h0c (n + k) d) H) → n + k = id → ∃ d, cLy.2[id]? = some d ∧ va_at D vwCl (ad7 a0 adl adr adp ads adt adc adn adf id, lce cLy.1 cy (ad7 a0 adl adr adp ads adt adc adn adf) h0c id d) H := fun n k q e => by subst e; exact q
  rcases Nat.lt_or_ge id 7 with q | q
  · match id, q with
    | 0, _ => exact ⟨_, rfl, h_o 0 _ rfl⟩
    | 1, _ => exact ⟨_, rfl, h_adl 0 _ rfl⟩
    | 2, _ => exact ⟨_, rfl, h_adl 1 _ rfl⟩
    | 3, _ => exact ⟨_, rfl, h_adr 0 _ rfl⟩
    | 4, _ => exact ⟨_, rfl, h_adr 1 _ rfl⟩
    | 5, _ => exact ⟨_, rfl, h_adp 0 _ rfl⟩
    | 6, _ => exact ⟨_, rfl, at_q (f := fun k => some (adp (2 + 7 * k))) (fun k hk => by show _ = some (ad7 a0 adl adr adp ads adt adc adn adf (45 + 7 * k)); rw [ad7_10 (by omega) (by omega)]; congr 2; omega) (h_adp 1 _ rfl)⟩
    | k + 7, hk => exact absurd hk (by omega)
  rcases Nat.lt_or_ge id 17 with q1 | q1
  · exact us 7 (id - 7) (s7 _ (by omega)) (by omega)
  rcases Nat.lt_or_ge id 24 with q2 | q2
  · have hm : ∀ k, k < 7 → ∃ d, cLy.2[17 + k]? = some d ∧ va_at D vwCl (ad7 a0 adl adr adp ads adt adc adn adf (17 + k), lce cLy.1 cy (ad7 a0 adl adr adp ads adt adc adn adf) h0c (17 + k) d) H := by
      intro k hk
      match k, hk with
      | 0, _ => exact ⟨_, rfl, ht0 0 _ rfl⟩
      | 1, _ => exact ⟨_, rfl, h_adc 0 _ rfl⟩
      | 2, _ => exact ⟨_, rfl, h_adc 1 _ rfl⟩
      | 3, _ => exact ⟨_, rfl, h_adc 2 _ rfl⟩
      | 4, _ => exact ⟨_, rfl, h_adc 3 _ rfl⟩
      | 5, _ => exact ⟨_, rfl, h_adc 4 _ rfl⟩
      | 6, _ => exact ⟨_, rfl, h_adc 5 _ rfl⟩
      | k + 7, hk => exact absurd hk (by omega)
    exact us 17 (id - 17) (hm _ (by omega)) (by omega)
  rcases Nat.lt_or_ge id 31 with q3 | q3
  · exact us 24 (id - 24) (n24 _ (by omega)) (by omega)
  rcases Nat.lt_or_ge id 38 with q3 | q3
  · exact us 31 (id - 31) (n31 _ (by omega)) (by omega)
  rcases Nat.lt_or_ge id 45 with q3 | q3
  · exact us 38 (id - 38) (n38 _ (by omega)) (by omega)
  rcases Nat.lt_or_ge id 52 with q3 | q3
  · exact us 45 (id - 45) (n45 _ (by omega)) (by omega)
  rcases Nat.lt_or_ge id 59 with q3 | q3
  · exact us 52 (id - 52) (n52 _ (by omega)) (by omega)
  rcases Nat.lt_or_ge id 66 with q3 | q3
  · exact us 59 (id - 59) (n59 _ (by omega)) (by omega)
  rcases Nat.lt_or_ge id 73 with q3 | q3
  · exact us 66 (id - 66) (n66 _ (by omega)) (by omega)
  rcases Nat.lt_or_ge id 80 with q3 | q3
  · exact us 73 (id - 73) (n73 _ (by omega)) (by omega)
  rcases Nat.lt_or_ge id 87 with q3 | q3
  · exact us 80 (id - 80) (n80 _ (by omega)) (by omega)
  exact us 87 (id - 87) (s87 _ (by omega)) (by omega)
theorem AdN (ad : Nat → Nat) : AdL (wNet cy ad) 7 ad := (show AdL (wNet cy ad) 7 ad from ⟨rfl, fun k hk => by match k, hk with | 0, _ => exact ⟨_, rfl⟩ | 1, _ => exact ⟨_, rfl⟩ | 2, _ => exact ⟨_, rfl⟩ | 3, _ => exact ⟨_, rfl⟩ | 4, _ => exact ⟨_, rfl⟩ | 5, _ => exact ⟨_, rfl⟩ | 6, _ => exact ⟨_, rfl⟩ | k + 7, hk => exact absurd hk (by omega)⟩)
theorem AdS (ad : Nat → Nat) : AdL (wShp cy ad) 10 ad := (show AdL (wShp cy ad) 10 ad from ⟨rfl, fun k hk => by match k, hk with | 0, _ => exact ⟨_, rfl⟩ | 1, _ => exact ⟨_, rfl⟩ | 2, _ => exact ⟨_, rfl⟩ | 3, _ => exact ⟨_, rfl⟩ | 4, _ => exact ⟨_, rfl⟩ | 5, _ => exact ⟨_, rfl⟩ | 6, _ => exact ⟨_, rfl⟩ | 7, _ => exact ⟨_, rfl⟩ | 8, _ => exact ⟨_, rfl⟩ | 9, _ => exact ⟨_, rfl⟩ | k + 10, hk => exact absurd hk (by omega)⟩)
theorem AdP (ad : Nat → Nat) : AdL (wPst cy ad) 44 ad := by
  have a := (show AdL ([(ad 0, .inr (3, [.ref (ad 1), iv 0, iv 0])), (ad 1, .inl (cy 3, 6, .inr (.inr (.inr (.inr (fun k => some (ad (2 + 7 * k))))))))]) 2 ad from ⟨rfl, fun k hk => by match k, hk with | 0, _ => exact ⟨_, rfl⟩ | 1, _ => exact ⟨_, rfl⟩ | k + 2, hk => exact absurd hk (by omega)⟩)
  have b := (((((AdN (cy := cy) (fun i => ad (2 + i))).app (AdN (cy := cy) (fun i => ad (9 + i)))).app (AdN (cy := cy) (fun i => ad (16 + i)))).app (AdN (cy := cy) (fun i => ad (23 + i)))).app (AdN (cy := cy) (fun i => ad (30 + i)))).app (AdN (cy := cy) (fun i => ad (37 + i)))
  refine (a.app b).to (fun k hk => ?_)
  by_cases q : k < 2
  · rw [if_pos q]
  · rw [if_neg q]
    repeat' split
    all_goals (congr 1 <;> omega)
theorem AdT (ad : Nat → Nat) : AdL (wTri cy ad) 18 ad := by
  have a := (show AdL ([(ad 0, .inr (6, [.ref (ad 1), .ref (ad 8), iv 0, iv 0]))]) 1 ad from ⟨rfl, fun k hk => by match k, hk with | 0, _ => exact ⟨_, rfl⟩ | k + 1, hk => exact absurd hk (by omega)⟩)
  refine ((a.app (AdN (cy := cy) (fun i => ad (1 + i)))).app (AdS (cy := cy) (fun i => ad (8 + i)))).to (fun k hk => ?_)
  repeat' split
  all_goals first | rfl | (congr 1; omega)
def B7 (a0 : Nat) (adl adr adp ads adt adc adn adf : Nat → Nat) (k : Nat) : Nat := if k < 1 then a0 else if k < 3 then adl (k - 1) else if k < 5 then adr (k - 3) else if k < 49 then adp (k - 5) else if k < 59 then ads (k - 49) else if k < 77 then adt (k - 59) else if k < 83 then adc (k - 77) else if k < 90 then adn (k - 83) else adf (k - 90)
theorem B7_0 {k : Nat} (h1 : 0 ≤ k) (h2 : k < 1) : B7 a0 adl adr adp ads adt adc adn adf k = a0 := by
  unfold B7
  rw [if_pos (by omega)]
theorem B7_1 {k : Nat} (h1 : 1 ≤ k) (h2 : k < 3) : B7 a0 adl adr adp ads adt adc adn adf k = adl (k - 1) := by
  unfold B7
  rw [if_neg (by omega), if_pos (by omega)]
theorem B7_2 {k : Nat} (h1 : 3 ≤ k) (h2 : k < 5) : B7 a0 adl adr adp ads adt adc adn adf k = adr (k - 3) := by
  unfold B7
  rw [if_neg (by omega), if_neg (by omega), if_pos (by omega)]
theorem B7_3 {k : Nat} (h1 : 5 ≤ k) (h2 : k < 49) : B7 a0 adl adr adp ads adt adc adn adf k = adp (k - 5) := by
  unfold B7
  rw [if_neg (by omega), if_neg (by omega), if_neg (by omega), if_pos (by omega)]
theorem B7_4 {k : Nat} (h1 : 49 ≤ k) (h2 : k < 59) : B7 a0 adl adr adp ads adt adc adn adf k = ads (k - 49) := by
  unfold B7
  rw [if_neg (by omega), if_neg (by omega), if_neg (by omega), if_neg (by omega), if_pos (by omega)]
theorem B7_5 {k : Nat} (h1 : 59 ≤ k) (h2 : k < 77) : B7 a0 adl adr adp ads adt adc adn adf k = adt (k - 59) := by
  unfold B7
  rw [if_neg (by omega), if_neg (by omega), if_neg (by omega), if_neg (by omega), if_neg (by omega), if_pos (by omega)]
theorem B7_6 {k : Nat} (h1 : 77 ≤ k) (h2 : k < 83) : B7 a0 adl adr adp ads adt adc adn adf k = adc (k - 77) := by
  unfold B7
  rw [if_neg (by omega), if_neg (by omega), if_neg (by omega), if_neg (by omega), if_neg (by omega), if_neg (by omega), if_pos (by omega)]
theorem B7_7 {k : Nat} (h1 : 83 ≤ k) (h2 : k < 90) : B7 a0 adl adr adp ads adt adc adn adf k = adn (k - 83) := by
  unfold B7
  rw [if_neg (by omega), if_neg (by omega), if_neg (by omega), if_neg (by omega), if_neg (by omega), if_neg (by omega), if_neg (by omega), if_pos (by omega)]
theorem B7_8 {k : Nat} (h1 : 90 ≤ k) (h2 : k < 97) : B7 a0 adl adr adp ads adt adc adn adf k = adf (k - 90) := by
  unfold B7
  rw [if_neg (by omega), if_neg (by omega), if_neg (by omega), if_neg (by omega), if_neg (by omega), if_neg (by omega), if_neg (by omega), if_neg (by omega)]
def g7 (i : Nat) : Nat := if i < 7 then i else if i < 17 then i + 42 else if i = 17 then 59 else if i < 38 then i + 59 else if i < 45 then i + 22 else if i < 87 then i - 38 else i - 20
theorem g7_ok : ∀ i, i < 97 → g7 i < 97 := by decide +kernel
theorem g7_inj : ∀ i, i < 97 → ∀ j, j < 97 → g7 i = g7 j → i = j := by decide +kernel
theorem g7_0 {i : Nat} (h1 : 0 ≤ i) (h2 : i < 7) : g7 i = i := by
  unfold g7
  rw [if_pos (by omega)]
theorem g7_1 {i : Nat} (h1 : 7 ≤ i) (h2 : i < 17) : g7 i = i + 42 := by
  unfold g7
  rw [if_neg (by omega), if_pos (by omega)]
theorem g7_2 {i : Nat} (h1 : 17 ≤ i) (h2 : i < 18) : g7 i = 59 := by
  unfold g7
  rw [if_neg (by omega), if_neg (by omega), if_pos (by omega)]
theorem g7_3 {i : Nat} (h1 : 18 ≤ i) (h2 : i < 38) : g7 i = i + 59 := by
  unfold g7
  rw [if_neg (by omega), if_neg (by omega), if_neg (by omega), if_pos (by omega)]
theorem g7_4 {i : Nat} (h1 : 38 ≤ i) (h2 : i < 45) : g7 i = i + 22 := by
  unfold g7
  rw [if_neg (by omega), if_neg (by omega), if_neg (by omega), if_neg (by omega), if_pos (by omega)]
theorem g7_5 {i : Nat} (h1 : 45 ≤ i) (h2 : i < 87) : g7 i = i - 38 := by
  unfold g7
  rw [if_neg (by omega), if_neg (by omega), if_neg (by omega), if_neg (by omega), if_neg (by omega), if_pos (by omega)]
theorem g7_6 {i : Nat} (h1 : 87 ≤ i) (h2 : i < 97) : g7 i = i - 20 := by
  unfold g7
  rw [if_neg (by omega), if_neg (by omega), if_neg (by omega), if_neg (by omega), if_neg (by omega), if_neg (by omega)]
set_option maxHeartbeats 1000000 in
theorem con7_D {A : Nat → Prop} (hD : va_D A ([(a0, .inr (7, [.ref (adl 0), .ref (adr 0), .ref (adp 0), .ref (ads 0), .ref (adt 0), .ref (adc 0), .ref (adn 0), .ref (adf 0)]))] ++ wLet cy adl ++ wRdr cy adr ++ wPst cy adp ++ wShp cy ads ++ wTri cy adt ++ wCut cy adc ++ wNet cy adn ++ wNet cy adf)) : va_D A (lws cLy cy (ad7 a0 adl adr adp ads adt adc adn adf) h0c) := by
  have a0L := (show AdL ([(a0, .inr (7, [.ref (adl 0), .ref (adr 0), .ref (adp 0), .ref (ads 0), .ref (adt 0), .ref (adc 0), .ref (adn 0), .ref (adf 0)]))]) 1 (fun _ => a0) from ⟨rfl, fun k hk => by match k, hk with | 0, _ => exact ⟨_, rfl⟩ | k + 1, hk => exact absurd hk (by omega)⟩)
  have aL := (show AdL (wLet cy adl) 2 adl from ⟨rfl, fun k hk => by match k, hk with | 0, _ => exact ⟨_, rfl⟩ | 1, _ => exact ⟨_, rfl⟩ | k + 2, hk => exact absurd hk (by omega)⟩)
  have aR := (show AdL (wRdr cy adr) 2 adr from ⟨rfl, fun k hk => by match k, hk with | 0, _ => exact ⟨_, rfl⟩ | 1, _ => exact ⟨_, rfl⟩ | k + 2, hk => exact absurd hk (by omega)⟩)
  have aC := (show AdL (wCut cy adc) 6 adc from ⟨rfl, fun k hk => by match k, hk with | 0, _ => exact ⟨_, rfl⟩ | 1, _ => exact ⟨_, rfl⟩ | 2, _ => exact ⟨_, rfl⟩ | 3, _ => exact ⟨_, rfl⟩ | 4, _ => exact ⟨_, rfl⟩ | 5, _ => exact ⟨_, rfl⟩ | k + 6, hk => exact absurd hk (by omega)⟩)
  have a := ((((((((a0L.app aL).app aR).app (AdP (cy := cy) adp)).app (AdS (cy := cy) ads)).app (AdT (cy := cy) adt)).app aC).app (AdN (cy := cy) adn)).app (AdN (cy := cy) adf)).to (g := B7 a0 adl adr adp ads adt adc adn adf) (fun k hk => by
    rcases (by omega : k < 1 ∨ (1 ≤ k ∧ k < 3) ∨ (3 ≤ k ∧ k < 5) ∨ (5 ≤ k ∧ k < 49) ∨ (49 ≤ k ∧ k < 59) ∨ (59 ≤ k ∧ k < 77) ∨ (77 ≤ k ∧ k < 83) ∨ (83 ≤ k ∧ k < 90) ∨ (90 ≤ k ∧ k < 97)) with q | q | q | q | q | q | q | q | q
    · rw [B7_0 (by omega) q, if_pos (by omega), if_pos (by omega), if_pos (by omega), if_pos (by omega), if_pos (by omega), if_pos (by omega), if_pos (by omega), if_pos (by omega)]
    · rw [B7_1 q.1 q.2, if_pos (by omega), if_pos (by omega), if_pos (by omega), if_pos (by omega), if_pos (by omega), if_pos (by omega), if_pos (by omega), if_neg (by omega)]
    · rw [B7_2 q.1 q.2, if_pos (by omega), if_pos (by omega), if_pos (by omega), if_pos (by omega), if_pos (by omega), if_pos (by omega), if_neg (by omega)]
    · rw [B7_3 q.1 q.2, if_pos (by omega), if_pos (by omega), if_pos (by omega), if_pos (by omega), if_pos (by omega), if_neg (by omega)]
    · rw [B7_4 q.1 q.2, if_pos (by omega), if_pos (by omega), if_pos (by omega), if_pos (by omega), if_neg (by omega)]
    · rw [B7_5 q.1 q.2, if_pos (by omega), if_pos (by omega), if_pos (by omega), if_neg (by omega)]
    · rw [B7_6 q.1 q.2, if_pos (by omega), if_pos (by omega), if_neg (by omega)]
    · rw [B7_7 q.1 q.2, if_pos (by omega), if_neg (by omega)]
    · rw [B7_8 q.1 q.2, if_neg (by omega)]
    )
  refine D_map hD a g7 (fun i hi => ⟨g7_ok i hi, ?_⟩) (fun i j hi hj e => g7_inj i hi j hj e)
  have hi : i < 97 := hi
  rcases (by omega : i < 1 ∨ (1 ≤ i ∧ i < 3) ∨ (3 ≤ i ∧ i < 5) ∨ (5 ≤ i ∧ i < 7) ∨ (7 ≤ i ∧ i < 17) ∨ (17 ≤ i ∧ i < 18) ∨ (18 ≤ i ∧ i < 24) ∨ (24 ≤ i ∧ i < 31) ∨ (31 ≤ i ∧ i < 38) ∨ (38 ≤ i ∧ i < 45) ∨ (45 ≤ i ∧ i < 87) ∨ (87 ≤ i ∧ i < 97)) with q | q | q | q | q | q | q | q | q | q | q | q
  · rw [ad7_0 (by omega) q, g7_0 (by omega) (by omega), B7_0 (by omega) (by omega)]
  · rw [ad7_1 q.1 q.2, g7_0 (by omega) (by omega), B7_1 (by omega) (by omega)]
    all_goals (congr 1 <;> omega)
  · rw [ad7_2 q.1 q.2, g7_0 (by omega) (by omega), B7_2 (by omega) (by omega)]
    all_goals (congr 1 <;> omega)
  · rw [ad7_3 q.1 q.2, g7_0 (by omega) (by omega), B7_3 (by omega) (by omega)]
    all_goals (congr 1 <;> omega)
  · rw [ad7_4 q.1 q.2, g7_1 (by omega) (by omega), B7_4 (by omega) (by omega)]
    all_goals (congr 1 <;> omega)
  · rw [ad7_5 q.1 q.2, g7_2 (by omega) (by omega), B7_5 (by omega) (by omega)]
    all_goals (congr 1 <;> omega)
  · rw [ad7_6 q.1 q.2, g7_3 (by omega) (by omega), B7_6 (by omega) (by omega)]
    all_goals (congr 1 <;> omega)
  · rw [ad7_7 q.1 q.2, g7_3 (by omega) (by omega), B7_7 (by omega) (by omega)]
    all_goals (congr 1 <;> omega)
  · rw [ad7_8 q.1 q.2, g7_3 (by omega) (by omega), B7_8 (by omega) (by omega)]
    all_goals (congr 1 <;> omega)
  · rw [ad7_9 q.1 q.2, g7_4 (by omega) (by omega), B7_5 (by omega) (by omega)]
    all_goals (congr 1 <;> omega)
  · rw [ad7_10 q.1 q.2, g7_5 (by omega) (by omega), B7_3 (by omega) (by omega)]
    all_goals (congr 1 <;> omega)
  · rw [ad7_11 q.1 q.2, g7_6 (by omega) (by omega), B7_5 (by omega) (by omega)]
    all_goals (congr 1 <;> omega)
end CON7
