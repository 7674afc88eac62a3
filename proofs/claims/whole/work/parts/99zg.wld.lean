def adL (h0 hm : Nat) (q : Nat → Nat) (G : Nat → Nat → Nat) (g : Nat → Nat) : List Nat := [h0, (q 1), (G 1 1), (G 1 2), (G 1 3), (G 1 4), (G 1 5), (G 1 6), (G 1 7), (G 1 8), (q 2), (G 2 1), (G 2 2), (G 2 3), (G 2 4), (q 3), (G 3 1), (q 4), (G 4 1), (G 4 2), (G 4 3), (G 4 4), (G 4 5), (G 4 6), (G 4 7), (G 4 8), (q 5), (q 6), (G 6 1), (q 7), (q 8), (G 8 1), (G 8 2), (G 8 3), (G 8 4), (q 9), (q 10), (G 10 1), (q 11), (G 11 1), (q 12), (G 12 1), (G 12 2), (G 12 3), (G 12 4), (G 12 5), (G 12 6), (G 12 7), (G 12 8), (q 13), (G 13 1), (G 13 2), (G 13 3), (G 13 4), (q 14), (G 14 1), (G 14 2), (G 14 3), (G 14 4), (q 15), (G 15 1), (G 15 2), (G 15 3), (G 15 4), (q 16), (G 16 1), (G 16 2), (G 16 3), (G 16 4), (q 17), (G 17 1), (G 17 2), (G 17 3), (G 17 4), hm, (g 1), (g 2), (g 3), (g 4), (g 5), (g 6), (g 7), (g 8), (g 9), (g 10), (g 11), (g 12), (g 13), (g 14), (g 15), (g 16), (g 17), (g 18)]

def adF (h0 hm : Nat) (q : Nat → Nat) (G : Nat → Nat → Nat) (g : Nat → Nat) (ex : Nat → Nat) : Nat → Nat := fun p => if p < 93 then (adL h0 hm q G g).getD p 0 else ex p
def wAll (E : Nat → ClassId) (h0 hm : Nat) (q : Nat → Nat) (G : Nat → Nat → Nat) (g : Nat → Nat) : va_W := bX12 E hm g ++ (wMain E h0 q G ++ [])
set_option maxRecDepth 100000 in
set_option maxHeartbeats 4000000 in
theorem wAll_at (D : va_G) (E : Nat → ClassId) (h0 hm : Nat) (q : Nat → Nat) (G : Nat → Nat → Nat) (g ex : Nat → Nat) (H : Heap) : ∀ p : Nat, p < 93 → ∃ e : va_E, (wAll E h0 hm q G g)[92 - p]? = some (adF h0 hm q G g ex p, e) ∧ (va_at D classes (adF h0 hm q G g ex p, e) H → va_at D classes (adF h0 hm q G g ex p, cel E (adF h0 hm q G g ex) s0 p) H)
  | 0, _ => ⟨_, rfl, fun h => h⟩
  | 1, _ => ⟨_, rfl, fun h => h⟩
  | 2, _ => ⟨_, rfl, fun h => h⟩
  | 3, _ => ⟨_, rfl, fun h => h⟩
  | 4, _ => ⟨_, rfl, fun h => h⟩
  | 5, _ => ⟨_, rfl, fun h => h⟩
  | 6, _ => ⟨_, rfl, fun h => h⟩
  | 7, _ => ⟨_, rfl, fun h => h⟩
  | 8, _ => ⟨_, rfl, fun h => h⟩
  | 9, _ => ⟨_, rfl, fun h => h⟩
  | 10, _ => ⟨_, rfl, fun h => h⟩
  | 11, _ => ⟨_, rfl, fun h => h⟩
  | 12, _ => ⟨_, rfl, fun h => h⟩
  | 13, _ => ⟨_, rfl, fun h => h⟩
  | 14, _ => ⟨_, rfl, fun h => h⟩
  | 15, _ => ⟨_, rfl, fun h => h⟩
  | 16, _ => ⟨_, rfl, fun h => h⟩
  | 17, _ => ⟨_, rfl, fun h => h⟩
  | 18, _ => ⟨_, rfl, fun h => h⟩
  | 19, _ => ⟨_, rfl, fun h => h⟩
  | 20, _ => ⟨_, rfl, fun h => h⟩
  | 21, _ => ⟨_, rfl, fun h => h⟩
  | 22, _ => ⟨_, rfl, fun h => h⟩
  | 23, _ => ⟨_, rfl, fun h => h⟩
  | 24, _ => ⟨_, rfl, fun h => h⟩
  | 25, _ => ⟨_, rfl, fun h => h⟩
  | 26, _ => ⟨.inl (E 0, 65, .inl RWf), rfl, fun h => by rw [rw_eq] at h; exact h⟩
  | 27, _ => ⟨_, rfl, fun h => h⟩
  | 28, _ => ⟨_, rfl, fun h => h⟩
  | 29, _ => ⟨_, rfl, fun h => by
    refine Eq.trans (show H[adF h0 hm q G g ex 29]? = _ from h) ?_
    congr 1⟩
  | 30, _ => ⟨_, rfl, fun h => h⟩
  | 31, _ => ⟨_, rfl, fun h => h⟩
  | 32, _ => ⟨_, rfl, fun h => h⟩
  | 33, _ => ⟨_, rfl, fun h => h⟩
  | 34, _ => ⟨_, rfl, fun h => h⟩
  | 35, _ => ⟨_, rfl, fun h => h⟩
  | 36, _ => ⟨_, rfl, fun h => h⟩
  | 37, _ => ⟨_, rfl, fun h => h⟩
  | 38, _ => ⟨_, rfl, fun h => h⟩
  | 39, _ => ⟨_, rfl, fun h => h⟩
  | 40, _ => ⟨_, rfl, fun h => h⟩
  | 41, _ => ⟨_, rfl, fun h => h⟩
  | 42, _ => ⟨_, rfl, fun h => h⟩
  | 43, _ => ⟨_, rfl, fun h => h⟩
  | 44, _ => ⟨_, rfl, fun h => h⟩
  | 45, _ => ⟨_, rfl, fun h => h⟩
  | 46, _ => ⟨_, rfl, fun h => h⟩
  | 47, _ => ⟨_, rfl, fun h => h⟩
  | 48, _ => ⟨_, rfl, fun h => h⟩
  | 49, _ => ⟨_, rfl, fun h => h⟩
  | 50, _ => ⟨_, rfl, fun h => h⟩
  | 51, _ => ⟨_, rfl, fun h => h⟩
  | 52, _ => ⟨_, rfl, fun h => h⟩
  | 53, _ => ⟨_, rfl, fun h => h⟩
  | 54, _ => ⟨_, rfl, fun h => h⟩
  | 55, _ => ⟨_, rfl, fun h => h⟩
  | 56, _ => ⟨_, rfl, fun h => h⟩
  | 57, _ => ⟨_, rfl, fun h => h⟩
  | 58, _ => ⟨_, rfl, fun h => h⟩
  | 59, _ => ⟨_, rfl, fun h => h⟩
  | 60, _ => ⟨_, rfl, fun h => h⟩
  | 61, _ => ⟨_, rfl, fun h => h⟩
  | 62, _ => ⟨_, rfl, fun h => h⟩
  | 63, _ => ⟨_, rfl, fun h => h⟩
  | 64, _ => ⟨_, rfl, fun h => h⟩
  | 65, _ => ⟨_, rfl, fun h => h⟩
  | 66, _ => ⟨_, rfl, fun h => h⟩
  | 67, _ => ⟨_, rfl, fun h => h⟩
  | 68, _ => ⟨_, rfl, fun h => h⟩
  | 69, _ => ⟨_, rfl, fun h => h⟩
  | 70, _ => ⟨_, rfl, fun h => h⟩
  | 71, _ => ⟨_, rfl, fun h => h⟩
  | 72, _ => ⟨_, rfl, fun h => h⟩
  | 73, _ => ⟨_, rfl, fun h => h⟩
  | 74, _ => ⟨_, rfl, fun h => h⟩
  | 75, _ => ⟨.inl (E 0, 2119, .inl aF0), rfl, fun h => by rw [aF_eq 75 (.inl rfl)] at h; exact h⟩
  | 76, _ => ⟨.inl (E 0, 2119, .inl (cpF aF0 (fun _ => 0) 2119)), rfl, fun h => by rw [cp_eq] at h; exact h⟩
  | 77, _ => ⟨_, rfl, fun h => h⟩
  | 78, _ => ⟨_, rfl, fun h => h⟩
  | 79, _ => ⟨_, rfl, fun h => h⟩
  | 80, _ => ⟨_, rfl, fun h => h⟩
  | 81, _ => ⟨_, rfl, fun h => h⟩
  | 82, _ => ⟨_, rfl, fun h => h⟩
  | 83, _ => ⟨_, rfl, fun h => h⟩
  | 84, _ => ⟨_, rfl, fun h => h⟩
  | 85, _ => ⟨_, rfl, fun h => h⟩
  | 86, _ => ⟨_, rfl, fun h => h⟩
  | 87, _ => ⟨_, rfl, fun h => h⟩
  | 88, _ => ⟨_, rfl, fun h => h⟩
  | 89, _ => ⟨_, rfl, fun h => h⟩
  | 90, _ => ⟨_, rfl, fun h => h⟩
  | 91, _ => ⟨_, rfl, fun h => h⟩
  | 92, _ => ⟨_, rfl, fun h => h⟩
  | p + 93, h => absurd h (by omega)

theorem wAll_H {D : va_G} {E : Nat → ClassId} {A : Nat → Prop} {h0 hm : Nat} {q : Nat → Nat} {G : Nat → Nat → Nat} {g ex : Nat → Nat} {H : Heap} (hP : va_P D classes (wAll E h0 hm q G g) H) (hD : va_D A (wAll E h0 hm q G g)) : Hp D E (adF h0 hm q G g ex) A s0 H := by
  have look : ∀ (k : Nat) (x : Nat × va_E), (Wd E (adF h0 hm q G g ex) s0)[k]? = some x → k < 93 ∧ x = (adF h0 hm q G g ex k, cel E (adF h0 hm q G g ex) s0 k) := by
    intro k x hk
    have hl : k < 93 := by have := (List.getElem?_eq_some_iff.mp hk).1; simpa [Wd] using this
    rw [Wd_at hl] at hk
    exact ⟨hl, (Option.some.inj hk).symm⟩
  refine ⟨fun k x hk => ?_, fun i j x z hi hj e => ?_, fun k x hk => ?_⟩
  · obtain ⟨hl, rfl⟩ := look k x hk
    obtain ⟨e, h1, h2⟩ := wAll_at D E h0 hm q G g ex H k hl
    exact h2 (hP _ _ h1)
  · obtain ⟨hl, rfl⟩ := look i x hi
    obtain ⟨hl2, rfl⟩ := look j z hj
    obtain ⟨e1, h1, _⟩ := wAll_at D E h0 hm q G g ex H i hl
    obtain ⟨e2, h2, _⟩ := wAll_at D E h0 hm q G g ex H j hl2
    have := hD.1 _ _ _ _ h1 h2 e
    omega
  · obtain ⟨hl, rfl⟩ := look k x hk
    obtain ⟨e1, h1, _⟩ := wAll_at D E h0 hm q G g ex H k hl
    have := hD.2 _ _ h1
    exact this
