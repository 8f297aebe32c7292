/-! What holds at the law's start. (written by wip/p28/end.py) -/
def M00 : dp_M := fun h => if h = 6 then ct_st 40 else if h = 13 then ct_fl (nI 20) 6 else ct_z
theorem M00_o {h k : Nat} (h1 : h ≠ 6) (h3 : h ≠ 13) : M00 h k = nI 0 := by
  unfold M00
  rw [if_neg h1, if_neg h3]
  rfl
theorem M00_s {w : Nat} (hw : w < 40) : M00 6 w = nI (w / 2) := by
  show ct_st 40 w = _
  exact if_pos hw
theorem M00_b {c : Nat} (hc : c < 6) : M00 13 c = nI 20 := by
  show ct_fl (nI 20) 6 c = _
  exact if_pos hc
theorem GW00 : GW s00 := ⟨Nat.zero_le _, Nat.zero_le _, fun w hw => (by show w / 2 < 20; omega), fun _ _ => Nat.zero_le _, fun a k _ hk => absurd hk (Nat.not_lt_zero _), fun _ _ => Nat.zero_le _, fun c k _ hk => absurd hk (Nat.not_lt_zero _)⟩
theorem JC00 : JC M00 s00 l00 := by
  refine ⟨⟨GW00, fun _ _ _ => rfl, fun _ _ _ => rfl, M00_o (by decide) (by decide), M00_o (by decide) (by decide), fun w hw => M00_s hw, fun a _ => M00_o (by decide) (by decide), fun a k _ hk => absurd hk (Nat.not_lt_zero _), fun a x _ _ => M00_o (by omega) (by omega), fun x _ => M00_o (by decide) (by decide), fun c _ => M00_o (by decide) (by decide), fun c k _ hk => absurd hk (Nat.not_lt_zero _), fun c hc => absurd hc (Nat.not_lt_zero _), fun c _ hc => M00_b hc⟩, ?_, ?_⟩
  · exact ⟨fun c _ => (by decide : (0 : Nat) < 2 ^ 16), fun a _ => M00_o (by decide) (by decide), fun c _ => ⟨M00_o (by decide) (by decide), M00_o (by decide) (by decide), M00_o (by decide) (by decide)⟩, M00_o (by decide) (by decide)⟩
  · exact ⟨fun c _ _ => ⟨rfl, rfl⟩, fun c a _ _ => Nat.zero_testBit a⟩
/-- the addresses by handles -/
def st_l (q : Nat) (u : ct_S3) : List Nat := [q, u.1.1, u.1.2.1, u.1.2.2.1, u.1.2.2.2.1, u.1.2.2.2.2, u.2.1.1.1, u.2.1.1.2.1, u.2.1.1.2.2.1, u.2.1.1.2.2.2.1, u.2.1.1.2.2.2.2, u.2.2.1.1.1, u.2.2.1.1.2.1, u.2.2.1.1.2.2, u.2.2.2.1.1, u.2.2.2.1.2.1, u.2.2.2.1.2.2.1, u.2.2.2.1.2.2.2, u.2.2.2.2.1, u.2.2.2.2.2.1, u.2.2.2.2.2.2.1, u.2.2.2.2.2.2.2, 0, 0, 0, 0, 0, u.2.1.2.1 0, u.2.1.2.1 1, u.2.1.2.1 2, u.2.1.2.1 3, u.2.1.2.1 4, u.2.1.2.1 5, u.2.1.2.1 6, u.2.1.2.1 7, u.2.1.2.1 8, u.2.1.2.1 9, u.2.1.2.1 10, u.2.1.2.1 11, u.2.1.2.1 12, u.2.1.2.1 13, u.2.1.2.1 14, u.2.1.2.1 15, u.2.1.2.2 0, u.2.1.2.2 1, u.2.1.2.2 2, u.2.1.2.2 3, u.2.1.2.2 4, u.2.1.2.2 5, u.2.1.2.2 6, u.2.1.2.2 7, u.2.1.2.2 8, u.2.1.2.2 9, u.2.1.2.2 10, u.2.1.2.2 11, u.2.1.2.2 12, u.2.1.2.2 13, u.2.1.2.2 14, u.2.1.2.2 15, u.2.2.1.2 0, u.2.2.1.2 1, u.2.2.1.2 2, u.2.2.1.2 3, u.2.2.1.2 4, u.2.2.1.2 5]
def st_ad (q : Nat) (u : ct_S3) (b : Nat) : Nat → Nat := fun k => if k = 1000 then b else if 10000 ≤ k then k - 10000 else (st_l q u).getD k 0
theorem st_adk {q b : Nat} {u : ct_S3} : dp_adk (st_ad q u b) b := ⟨if_pos rfl, fun a => by unfold st_ad; rw [if_neg (by omega), if_pos (by omega), Nat.add_sub_cancel_left]⟩
def st_F : List Nat := [0, 1, 39, 49, 54, 59, 2, 3, 20, 21, 38, 40, 47, 48, 50, 51, 52, 53, 55, 56, 57, 58, 4, 5, 6, 7, 8, 9, 10, 11, 12, 13, 14, 15, 16, 17, 18, 19, 22, 23, 24, 25, 26, 27, 28, 29, 30, 31, 32, 33, 34, 35, 36, 37, 41, 42, 43, 44, 45, 46]
def st_f (k : Nat) : Nat := st_F.getD k 0
theorem st_inj : ∀ i, i < 60 → ∀ j, j < 60 → st_f i = st_f j → i = j := by decide +kernel
theorem st_out {ad : Nat → Nat} {k N : Nat} {r : Nat → Nat} (h : ∀ j, j < N → ad (k + j) = r j) : dp_out ad k N = fun i => if i < N then some (r i) else none := by
  funext i
  unfold dp_out
  by_cases hi : i < N
  · rw [if_pos hi, if_pos hi, h i hi]
  · rw [if_neg hi, if_neg hi]
section STW
variable {g : dp_G} {q : Nat} {u : ct_S3} {b : Nat}
theorem st_o7 : dp_out (st_ad q u b) 27 16 = fun i => if i < 16 then some (u.2.1.2.1 i) else none := by
  refine st_out (fun j hj => ?_)
  match j, hj with
  | 0, _ => rfl
  | 1, _ => rfl
  | 2, _ => rfl
  | 3, _ => rfl
  | 4, _ => rfl
  | 5, _ => rfl
  | 6, _ => rfl
  | 7, _ => rfl
  | 8, _ => rfl
  | 9, _ => rfl
  | 10, _ => rfl
  | 11, _ => rfl
  | 12, _ => rfl
  | 13, _ => rfl
  | 14, _ => rfl
  | 15, _ => rfl
  | j + 16, hj => exact absurd hj (by omega)
theorem st_o9 : dp_out (st_ad q u b) 43 16 = fun i => if i < 16 then some (u.2.1.2.2 i) else none := by
  refine st_out (fun j hj => ?_)
  match j, hj with
  | 0, _ => rfl
  | 1, _ => rfl
  | 2, _ => rfl
  | 3, _ => rfl
  | 4, _ => rfl
  | 5, _ => rfl
  | 6, _ => rfl
  | 7, _ => rfl
  | 8, _ => rfl
  | 9, _ => rfl
  | 10, _ => rfl
  | 11, _ => rfl
  | 12, _ => rfl
  | 13, _ => rfl
  | 14, _ => rfl
  | 15, _ => rfl
  | j + 16, hj => exact absurd hj (by omega)
theorem st_o11 : dp_out (st_ad q u b) 59 6 = fun i => if i < 6 then some (u.2.2.1.2 i) else none := by
  refine st_out (fun j hj => ?_)
  match j, hj with
  | 0, _ => rfl
  | 1, _ => rfl
  | 2, _ => rfl
  | 3, _ => rfl
  | 4, _ => rfl
  | 5, _ => rfl
  | j + 6, hj => exact absurd hj (by omega)
set_option maxRecDepth 20000 in
theorem st_at : ∀ k, k < 65 → (k < 22 ∨ 27 ≤ k) → (out_X3 g q u)[st_f (dp_pos k)]? = some (st_ad q u b k, dp_cel g (st_ad q u b) M00 k) := by
  intro k hk hk2
  match k, hk, hk2 with
  | 0, _, _ => rfl
  | 1, _, _ => rfl
  | 2, _, _ => rfl
  | 3, _, _ => rfl
  | 4, _, _ => rfl
  | 5, _, _ => rfl
  | 6, _, _ => rfl
  | 7, _, _ =>
    show _ = some (_, (.inl (g.2.2.2.1, 16, .inr (.inr (.inr (.inr (dp_out (st_ad q u b) 27 16))))) : va_E))
    rw [st_o7]
    rfl
  | 8, _, _ => rfl
  | 9, _, _ =>
    show _ = some (_, (.inl (g.2.2.2.1, 16, .inr (.inr (.inr (.inr (dp_out (st_ad q u b) 43 16))))) : va_E))
    rw [st_o9]
    rfl
  | 10, _, _ => rfl
  | 11, _, _ =>
    show _ = some (_, (.inl (g.2.2.2.1, 6, .inr (.inr (.inr (.inr (dp_out (st_ad q u b) 59 6))))) : va_E))
    rw [st_o11]
    rfl
  | 12, _, _ => rfl
  | 13, _, _ => rfl
  | 14, _, _ => rfl
  | 15, _, _ => rfl
  | 16, _, _ => rfl
  | 17, _, _ => rfl
  | 18, _, _ => rfl
  | 19, _, _ => rfl
  | 20, _, _ => rfl
  | 21, _, _ => rfl
  | 22, _, hk2 => exact absurd hk2 (by omega)
  | 23, _, hk2 => exact absurd hk2 (by omega)
  | 24, _, hk2 => exact absurd hk2 (by omega)
  | 25, _, hk2 => exact absurd hk2 (by omega)
  | 26, _, hk2 => exact absurd hk2 (by omega)
  | 27, _, _ => rfl
  | 28, _, _ => rfl
  | 29, _, _ => rfl
  | 30, _, _ => rfl
  | 31, _, _ => rfl
  | 32, _, _ => rfl
  | 33, _, _ => rfl
  | 34, _, _ => rfl
  | 35, _, _ => rfl
  | 36, _, _ => rfl
  | 37, _, _ => rfl
  | 38, _, _ => rfl
  | 39, _, _ => rfl
  | 40, _, _ => rfl
  | 41, _, _ => rfl
  | 42, _, _ => rfl
  | 43, _, _ => rfl
  | 44, _, _ => rfl
  | 45, _, _ => rfl
  | 46, _, _ => rfl
  | 47, _, _ => rfl
  | 48, _, _ => rfl
  | 49, _, _ => rfl
  | 50, _, _ => rfl
  | 51, _, _ => rfl
  | 52, _, _ => rfl
  | 53, _, _ => rfl
  | 54, _, _ => rfl
  | 55, _, _ => rfl
  | 56, _, _ => rfl
  | 57, _, _ => rfl
  | 58, _, _ => rfl
  | 59, _, _ => rfl
  | 60, _, _ => rfl
  | 61, _, _ => rfl
  | 62, _, _ => rfl
  | 63, _, _ => rfl
  | 64, _, _ => rfl
  | k + 65, hk, _ => exact absurd hk (by omega)
theorem st_len : (dp_ww g (st_ad q u b) M00 []).length = 60 := by
  unfold dp_ww dp_dl
  rw [List.length_append, dp_wl_len]
  rfl
theorem st_get {k : Nat} {x : Nat × va_E} (hk : (dp_ww g (st_ad q u b) M00 [])[k]? = some x) : (out_X3 g q u)[st_f k]? = some x := by
  have h60 : k < 60 := by
    have h9 := (List.getElem?_eq_some_iff.mp hk).1
    rwa [st_len] at h9
  obtain ⟨h, h1, h2, h3, h4⟩ := dp_hs_pos k h60
  have h5 := dp_wl_at (g := g) (ad := st_ad q u b) (M := M00) (ds := []) h1 h4
  rw [h3, hk] at h5
  rw [Option.some.inj h5, ← h3]
  exact st_at h h1 h4
theorem st_P {H : Heap} (h : va_P g.1 vwCl (out_X3 g q u) H) : va_P g.1 vwCl (dp_ww g (st_ad q u b) M00 []) H := h.by st_f (fun k x hk => st_get hk)
theorem st_D {A : Nat → Prop} (h : va_D A (out_X3 g q u)) : va_D A (dp_ww g (st_ad q u b) M00 []) := by
  refine h.by st_f (fun k x hk => st_get hk) (fun i j hi hj e => ?_)
  rw [st_len] at hi hj
  exact st_inj i hi j hj e
end STW
