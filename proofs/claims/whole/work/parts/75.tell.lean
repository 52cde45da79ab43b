/-! what is told -/
theorem ixN {n : Nat} (h : n < 1000) : ix (nI n) = n := nI_clamp (by omega)
theorem rV_std {σ τ : qx_S} {P S n s : Nat} (h : rV σ τ P S n) (hs : s < S) : (σ 8 s = -4 ∧ τ 5 (11 * s + 6) = -1) ∨ ∃ p, p < P ∧ p < 8 ∧ σ 8 s = nI p ∧ τ 5 (11 * s + 6) = nI p ∧ ¬ nI p = -4 ∧ ¬ nI p < 0 := by
  have hP := h.1.1.2.2.2
  rcases h.2.2.1.2.1 s hs with z | ⟨p, hp, e1, e2⟩
  · exact Or.inl z
  · have np : ¬ nI p < 0 := nI_pos (by omega)
    exact Or.inr ⟨p, hp, by omega, e1, e2, fun z => np (by rw [z]; decide), np⟩
theorem rV_watts {σ τ : qx_S} {P S n : Nat} (h : rV σ τ P S n) (x : Int32) : nWatts σ x 5 = mWatts τ x S := by
  have hS5 : S ≤ 5 := h.1.2.1.2.2
  have c2 := h.1.2.2.1
  have c6 := h.1.2.2.2.2.2.2
  have key : ∀ i, i ≤ S → nWatts σ x i = mWatts τ x i := by
    intro i
    induction i with
    | zero => intro _; rfl
    | succ i ih =>
      intro hi
      have ih := ih (by omega)
      show (if ¬ σ 8 i = -4 ∧ nLine σ i = x then nWatts σ x i + σ 6 (i * 6 + 2) else nWatts σ x i) = mWatts τ x i + (if ¬ τ 5 (11 * i + 6) < 0 ∧ mLine τ i = x then τ 5 (11 * i + 2) else 0)
      rw [← ih]
      rcases rV_std h (show i < S by omega) with ⟨e1, e2⟩ | ⟨p, hp, hp8, e1, e2, n4, n0⟩
      · rw [if_neg (fun z => z.1 e1), if_neg (fun z => z.1 (by rw [e2]; decide)), Int32.add_zero]
      · have ln : mLine τ i = nLine σ i := by
          unfold mLine nLine
          rw [e1, e2, ixN (by omega), c2 _ (by omega), show 3 * p + 1 = p * 3 + 1 by omega]
        rw [ln, c6 i 2 (by omega) (by decide), e1, e2]
        by_cases f : nLine σ i = x
        · rw [if_pos ⟨n4, f⟩, if_pos ⟨n0, f⟩]
        · rw [if_neg (fun z => f z.2), if_neg (fun z => f z.2), Int32.add_zero]
  rw [← key S (Nat.le_refl S)]
  exact qf_stay _ _ S 5 (fun i a b => if_neg (fun z => z.1 (h.2.2.1.2.2.1 i a b).1)) hS5
theorem rV_stand {σ τ : qx_S} {P S n : Nat} (h : rV σ τ P S n) : nStd σ 5 = mStd τ S := by
  have hS5 : S ≤ 5 := h.1.2.1.2.2
  have key : ∀ i, i ≤ S → nStd σ i = mStd τ i := by
    intro i
    induction i with
    | zero => intro _; rfl
    | succ i ih =>
      intro hi
      have ih := ih (by omega)
      show (if σ 8 i = -4 then nStd σ i else nStd σ i + 1) = mStd τ i + (if τ 5 (11 * i + 6) < 0 then 0 else 1)
      rw [← ih]
      rcases rV_std h (show i < S by omega) with ⟨e1, e2⟩ | ⟨p, hp, hp8, e1, e2, n4, n0⟩
      · rw [if_pos e1, if_pos (by rw [e2]; decide), Int32.add_zero]
      · rw [e1, e2, if_neg n4, if_neg n0]
  rw [← key S (Nat.le_refl S)]
  exact qf_stay _ _ S 5 (fun i a b => if_pos (h.2.2.1.2.2.1 i a b).1) hS5
theorem rV_bill {σ τ : qx_S} {P S n s : Nat} (h : rV σ τ P S n) (hs : s < S) : nBill σ s = mBill τ s := by
  have c2 := h.1.2.2.1
  have c5 := h.1.2.2.2.2.2.1
  have d5 := h.2.2.1.2.2.2.2.1 s hs
  unfold nBill mBill
  rcases rV_std h hs with ⟨e1, e2⟩ | ⟨p, hp, hp8, e1, e2, n4, n0⟩
  · rw [if_pos e1, if_pos (by rw [e2]; decide)]
  · rw [e1, e2, if_neg n4, if_neg n0, ixN (by omega), c2 _ (by omega), show 3 * p = p * 3 + 0 by omega, d5.2.1, c5.2]
theorem qsum_eq {f g : Nat → Int32} {S N : Nat} (h : ∀ i, i < S → f i = g i) (hz : ∀ i, S ≤ i → i < N → f i = 0) (hS : S ≤ N) : qsum f N = qsum g S := by
  have key : ∀ i, i ≤ S → qsum f i = qsum g i := by
    intro i
    induction i with
    | zero => intro _; rfl
    | succ i ih => intro hi; rw [qsum, qsum, ih (by omega), h i (by omega)]
  rw [← key S (Nat.le_refl S)]
  have st : ∀ d, S + d ≤ N → qsum f (S + d) = qsum f S := by
    intro d
    induction d with
    | zero => intro _; rfl
    | succ d ih =>
      intro hd
      rw [show S + (d + 1) = (S + d) + 1 by omega, qsum, ih (by omega), hz (S + d) (by omega) (by omega), Int32.add_zero]
  have := st (N - S) (by omega)
  rw [show S + (N - S) = N by omega] at this
  exact this
theorem has_is {z : Int32} {n : Nat} (hz : z = nI n) (hn : n < 1000) (s : Nat) (hs : s < n) : 0 ≤ nI s ∧ nI s ≤ z - 1 := by
  subst hz
  obtain ⟨m, rfl⟩ : ∃ m, n = m + 1 := ⟨n - 1, by omega⟩
  rw [nI_pred]
  exact ⟨nI_pos' (by omega), nI_le (by omega) (by omega)⟩
theorem rV_of {σ τ : qx_S} {P S n : Nat} (h : rV σ τ P S n) (a b : Int32) : fOf σ a b n = mOfF τ a b n := by
  have hS5 : S ≤ 5 := h.1.2.1.2.2
  have s1 := h.1.2.1.1
  have t1 := h.1.2.1.2.1
  have c6 := h.1.2.2.2.2.2.2
  unfold fOf mOfF
  rw [s1, t1]
  by_cases ha : 0 ≤ a ∧ a ≤ nI S - 1
  rotate_left
  · rw [if_neg ha, if_neg ha]
  rw [if_pos ha, if_pos ha]
  obtain ⟨s, hs, rfl⟩ := qx_has rfl (by omega) ha
  rw [ixN (by omega)]
  have d5 := h.2.2.1.2.2.2.2.1 s hs
  by_cases hb : 0 ≤ b ∧ b ≤ 11
  · obtain ⟨t, ht, rfl⟩ := qx_inI 11 (by decide) hb
    rw [if_pos hb]
    by_cases t5 : t < 6
    · rw [if_pos ⟨hb.1, nI_le (show t ≤ 5 by omega) (by decide)⟩]
      unfold mFact
      rw [if_neg (fun z => by have := (nI_eq (b := 6) (by omega) (by decide)).mp z; omega), if_neg (fun z => by have := (nI_eq (b := 9) (by omega) (by decide)).mp z; omega), if_neg (fun z => by have := (nI_eq (b := 10) (by omega) (by decide)).mp z; omega), if_neg (fun z => by have := (nI_eq (b := 11) (by omega) (by decide)).mp z; omega), ixN (by omega)]
      exact (c6 s t (by omega) t5).symm
    · rw [if_neg (fun z => by have := (nI_leI (b := 5) (by omega) (by decide)).mp z.2; omega)]
      unfold nFact mFact
      rw [ixN (show t < 1000 by omega)]
      rcases (show t = 6 ∨ t = 7 ∨ t = 8 ∨ t = 9 ∨ t = 10 ∨ t = 11 by omega) with rfl | rfl | rfl | rfl | rfl | rfl
      · rw [show nI 6 = (6 : Int32) from rfl, if_pos rfl, if_pos rfl]
        rcases rV_std h hs with ⟨e1, e2⟩ | ⟨p, hp, hp8, e1, e2, n4, n0⟩
        · rw [if_neg (by rw [e2]; decide), e1]
        · rw [e1, e2, if_pos (Int32.not_lt.mp n0)]
      · rw [show nI 7 = (7 : Int32) from rfl, if_neg (by decide), if_pos rfl, if_neg (by decide), if_neg (by decide), if_neg (by decide), if_neg (by decide)]
        exact d5.1.symm
      · rw [show nI 8 = (8 : Int32) from rfl, if_neg (by decide), if_neg (by decide), if_pos rfl, if_neg (by decide), if_neg (by decide), if_neg (by decide), if_neg (by decide)]
        exact d5.2.1.symm
      · rw [show nI 9 = (9 : Int32) from rfl, if_neg (by decide), if_neg (by decide), if_neg (by decide), if_pos rfl, if_neg (by decide), if_pos rfl]
        exact (rV_at h (nI s) n (Nat.le_refl n) (Decidable.em _) ⟨s, hs, rfl⟩).symm
      · rw [show nI 10 = (10 : Int32) from rfl, if_neg (by decide), if_neg (by decide), if_neg (by decide), if_neg (by decide), if_pos rfl, if_neg (by decide), if_neg (by decide), if_pos rfl]
        exact d5.2.2.symm
      · rw [show nI 11 = (11 : Int32) from rfl, if_neg (by decide), if_neg (by decide), if_neg (by decide), if_neg (by decide), if_neg (by decide), if_pos rfl, if_neg (by decide), if_neg (by decide), if_neg (by decide), if_pos rfl]
        exact rV_bill h hs
  · rw [if_neg hb, if_neg (fun z => hb ⟨z.1, Int32.le_trans z.2 (by decide)⟩)]
    unfold nFact
    rw [if_neg (fun z => hb (by rw [z]; decide)), if_neg (fun z => hb (by rw [z]; decide)), if_neg (fun z => hb (by rw [z]; decide)), if_neg (fun z => hb (by rw [z]; decide)), if_neg (fun z => hb (by rw [z]; decide)), if_neg (fun z => hb (by rw [z]; decide))]
theorem rV_guestOf {σ τ : qx_S} {P S n : Nat} (h : rV σ τ P S n) (a b : Int32) : fGuestOf σ a b = mGuestOf τ a b := by
  obtain ⟨⟨g1, g2, g3⟩, gb, -⟩ := h.2.2.2
  unfold fGuestOf mGuestOf
  rw [g1, g2]
  by_cases ha : 0 ≤ a ∧ a ≤ nI n - 1
  rotate_left
  · rw [if_neg ha, if_neg ha]
  rw [if_pos ha, if_pos ha]
  obtain ⟨g, hg, rfl⟩ := qx_has rfl (by omega) ha
  rw [ixN (by omega)]
  obtain ⟨k1, k2, k3, k4⟩ := gb g hg
  by_cases hb : 0 ≤ b ∧ b ≤ 4
  · obtain ⟨t, ht, rfl⟩ := qx_inI 4 (by decide) hb
    rw [if_pos hb]
    unfold gFact mGFact
    rw [k1, k2, k3]
    rcases (show t = 0 ∨ t = 1 ∨ t = 2 ∨ t = 3 ∨ t = 4 by omega) with rfl | rfl | rfl | rfl | rfl
    · rw [show nI 0 = (0 : Int32) from rfl, if_pos rfl, if_pos rfl]
    · rw [show nI 1 = (1 : Int32) from rfl, if_neg (by decide), if_pos rfl, if_neg (by decide), if_pos rfl]
      rcases k4 with ⟨z, -, e, -⟩ | ⟨z, e, -⟩ | ⟨z, e, -⟩ | ⟨z, e, -⟩
      · rw [if_pos (by rw [z]; decide), e]
      · rw [if_pos (by rcases z with z | z <;> rw [z] <;> decide), e]
      · rw [if_neg (by rw [z]; decide), e]
      · rw [if_neg (by rcases z with z | z <;> rw [z] <;> decide), e]
    · rw [show nI 2 = (2 : Int32) from rfl, if_neg (by decide), if_neg (by decide), if_pos rfl, if_neg (by decide), if_neg (by decide), if_pos rfl]
    · rw [show nI 3 = (3 : Int32) from rfl, if_neg (by decide), if_neg (by decide), if_neg (by decide), if_pos rfl, if_neg (by decide), if_neg (by decide), if_neg (by decide), if_pos rfl]
    · rw [show nI 4 = (4 : Int32) from rfl, if_neg (by decide), if_neg (by decide), if_neg (by decide), if_neg (by decide), if_pos rfl, if_neg (by decide), if_neg (by decide), if_neg (by decide), if_neg (by decide)]
      rcases k4 with ⟨z, e, -⟩ | ⟨z, -, s, p, -, -, e1, e2, -⟩ | ⟨z, -, -, s, -, e1, e2⟩ | ⟨z, -, e⟩
      · rw [if_neg (by rw [z]; decide), e]
      · rw [if_pos (by rcases z with z | z <;> rw [z] <;> decide), e1, e2]
      · rw [if_pos (by rw [z]; decide), e1, e2]
      · rw [if_neg (by rcases z with z | z <;> rw [z] <;> decide), e]
  · rw [if_neg hb]
    unfold gFact
    rw [if_neg (fun z => hb (by rw [z]; decide)), if_neg (fun z => hb (by rw [z]; decide)), if_neg (fun z => hb (by rw [z]; decide)), if_neg (fun z => hb (by rw [z]; decide)), if_neg (fun z => hb (by rw [z]; decide))]
theorem rV_susp {σ τ : qx_S} {P S n : Nat} (h : rV σ τ P S n) (a b c : Int32) : fSusp σ a b c n = mSusp τ a b c n := by
  obtain ⟨⟨g1, g2, g3⟩, gb, -⟩ := h.2.2.2
  have key : ∀ i, i ≤ n → gSell σ a b c i = mSell τ a b c i := by
    intro i
    induction i with
    | zero => intro _; rfl
    | succ i ih =>
      intro hi
      have ih := ih (by omega)
      obtain ⟨k1, k2, k3, k4⟩ := gb i (by omega)
      show (if σ 15 i = 3 ∧ σ 18 i = a ∧ ¬ σ 20 i < b ∧ ¬ c < σ 20 i then gSell σ a b c i ||| ((1 : Int32) <<< (σ 19 i &&& 31)) else gSell σ a b c i) = mSell τ a b c i ||| (if τ 6 (7 * i + 2) = 3 ∧ τ 6 (7 * i) = a ∧ (b ≤ τ 6 (7 * i + 6) ∧ τ 6 (7 * i + 6) ≤ c) then ((1 : Int32) <<< (τ 6 (7 * i + 4) &&& 31)) else 0)
      rw [← ih, k1, k2]
      by_cases z : σ 15 i = 3
      · have k5 : τ 6 (7 * i + 6) = σ 20 i ∧ τ 6 (7 * i + 4) = σ 19 i := by
          rcases k4 with ⟨y, -⟩ | ⟨y, -⟩ | ⟨-, -, e, s, -, e1, e2⟩ | ⟨y, -⟩
          · rw [y] at z; exact absurd z (by decide)
          · rcases y with y | y <;> rw [y] at z <;> exact absurd z (by decide)
          · exact ⟨e, by rw [e1, e2]⟩
          · rcases y with y | y <;> rw [y] at z <;> exact absurd z (by decide)
        rw [k5.1, k5.2]
        by_cases y : σ 18 i = a ∧ ¬ σ 20 i < b ∧ ¬ c < σ 20 i
        · rw [if_pos ⟨z, y⟩, if_pos ⟨z, y.1, Int32.not_lt.mp y.2.1, Int32.not_lt.mp y.2.2⟩]
        · rw [if_neg (fun x => y x.2), if_neg (fun x => y ⟨x.2.1, Int32.not_lt.mpr x.2.2.1, Int32.not_lt.mpr x.2.2.2⟩), Int32.or_zero]
      · rw [if_neg (fun x => z x.1), if_neg (fun x => z x.1), Int32.or_zero]
  unfold fSusp mSusp
  rw [key n (Nat.le_refl n)]
theorem rV_lineOf {σ τ : qx_S} {P S n : Nat} (h : rV σ τ P S n) (a b : Int32) : fLineOf σ a b = mLineOf τ a b S := by
  have c3 := h.1.2.2.2.1
  have f := h.2.2.1.2.2.2.2.2.1
  unfold fLineOf mLineOf
  by_cases ha : 0 ≤ a ∧ a ≤ 2
  rotate_left
  · rw [if_neg ha, if_neg ha]
  rw [if_pos ha, if_pos ha]
  obtain ⟨k, hk, rfl⟩ := qx_inI 2 (by decide) ha
  rw [ixN (by omega), rV_watts h, c3 k (by omega), (f k (by omega)).1, (f k (by omega)).2]
  by_cases hb : 0 ≤ b ∧ b ≤ 3
  · obtain ⟨t, ht, rfl⟩ := qx_inI 3 (by decide) hb
    rw [if_pos hb]
    rcases (show t = 0 ∨ t = 1 ∨ t = 2 ∨ t = 3 by omega) with rfl | rfl | rfl | rfl
    · rw [show nI 0 = (0 : Int32) from rfl, if_pos rfl, if_pos rfl]
    · rw [show nI 1 = (1 : Int32) from rfl, if_neg (by decide), if_pos rfl, if_neg (by decide), if_pos rfl]
    · rw [show nI 2 = (2 : Int32) from rfl, if_neg (by decide), if_neg (by decide), if_pos rfl, if_neg (by decide), if_neg (by decide), if_pos rfl]
    · rw [show nI 3 = (3 : Int32) from rfl, if_neg (by decide), if_neg (by decide), if_neg (by decide), if_pos rfl, if_neg (by decide), if_neg (by decide), if_neg (by decide)]
  · rw [if_neg hb, if_neg (fun z => hb (by rw [z]; decide)), if_neg (fun z => hb (by rw [z]; decide)), if_neg (fun z => hb (by rw [z]; decide)), if_neg (fun z => hb (by rw [z]; decide))]
theorem rV_count {σ τ : qx_S} {P S n : Nat} (h : rV σ τ P S n) (x : Int32) : gOf σ x n = mOf τ x n := by
  obtain ⟨-, gb, -⟩ := h.2.2.2
  have key : ∀ i, i ≤ n → gOf σ x i = mOf τ x i := by
    intro i
    induction i with
    | zero => intro _; rfl
    | succ i ih =>
      intro hi
      have ih := ih (by omega)
      show (if σ 15 i = x then gOf σ x i + 1 else gOf σ x i) = mOf τ x i + (if τ 6 (7 * i + 2) = x then 1 else 0)
      rw [← ih, (gb i (by omega)).1]
      by_cases z : σ 15 i = x
      · rw [if_pos z, if_pos z]
      · rw [if_neg z, if_neg z, Int32.add_zero]
  exact key n (Nat.le_refl n)
theorem rV_many {σ τ : qx_S} {P S n : Nat} (h : rV σ τ P S n) (a : Int32) : fMany σ a P n = mMany τ a P S n := by
  have hS5 : S ≤ 5 := h.1.2.1.2.2
  have hP8 : P ≤ 8 := h.1.1.2.2.2
  have c2 := h.1.2.2.1
  obtain ⟨⟨a1, a2, a3⟩, ab, ac, ad, ae, -⟩ := h.2.2.1
  have d9 : qsum (fun s => σ 10 s) 5 = qsum (fun s => mOfF τ (nI s) 8 n) S := qsum_eq (fun i hi => by
    show σ 10 i = mOfF τ (nI i) 8 n
    rw [← rV_of h (nI i) 8]
    unfold fOf
    rw [if_pos (has_is h.1.2.1.1 (by omega) i hi), if_neg (by decide), ixN (by omega)]
    rfl) (fun i h1 h2 => (ac i h1 h2).2.2.1) hS5
  have d10 : qsum (nBill σ) 5 = qsum (fun s => mOfF τ (nI s) 11 n) S := qsum_eq (fun i hi => by
    show nBill σ i = mOfF τ (nI i) 11 n
    rw [← rV_of h (nI i) 11]
    unfold fOf
    rw [if_pos (has_is h.1.2.1.1 (by omega) i hi), if_neg (by decide), ixN (by omega)]
    rfl) (fun i h1 h2 => by unfold nBill; rw [if_pos (ac i h1 h2).1]) hS5
  have d11 : qsum (fun p => σ 2 (p * 3 + 2)) P = qsum (fun p => τ 2 (3 * p + 2)) P := qsum_eq (fun i hi => by
    show σ 2 (i * 3 + 2) = τ 2 (3 * i + 2)
    rw [c2 _ (by omega), show 3 * i + 2 = i * 3 + 2 by omega]) (fun i h1 h2 => absurd h2 (by omega)) (Nat.le_refl P)
  have d3 : (if σ 7 2 = 0 then (0 : Int32) else 1) = τ 1 2 := by
    rw [a1]
    rcases a2 with z | z
    · rw [if_pos z, z]
    · rw [if_neg (by rw [z]; decide), z]
  unfold fMany mMany
  rw [h.1.1.1, h.1.1.2.1, h.1.2.1.1, h.1.2.1.2.1, rV_stand h, d3, a3, h.2.2.2.1.1, h.2.2.2.1.2.1, rV_count h 3, rV_count h 4, rV_count h 5, d9, d10, d11]
theorem rV_tell {σ τ : qx_S} {P S n : Nat} (h : rV σ τ P S n) : RelTell σ τ P S n :=
  ⟨fun a b => rV_of h a b, fun a b => rV_guestOf h a b, fun a b c => rV_susp h a b c, fun a b => rV_lineOf h a b, fun a => rV_many h a⟩
