/-! the class cuts the tape: what stands behind p bytes -/
def wof (T : Nat → Int) (k s e : Int) : Int := if k = 1 then wv T s.toNat (e - s).toNat else if k = 2 then nv T s.toNat (e - s).toNat else T s.toNat
theorem kdO_c (b : Int) : (kdO b = 1 ∧ 97 ≤ b ∧ b ≤ 122) ∨ (kdO b = 2 ∧ 48 ≤ b ∧ b ≤ 57) ∨ (kdO b = 3 ∧ ¬ (97 ≤ b ∧ b ≤ 122) ∧ ¬ (48 ≤ b ∧ b ≤ 57)) := by
  unfold kdO
  split
  · omega
  · split <;> omega
theorem isTk.ext {T : Nat → Int} {p k w s e : Int} (h : isTk T p k w s e) (hn : e = p → ¬ (k = 1 ∧ 97 ≤ T p.toNat ∧ T p.toNat ≤ 122) ∧ ¬ (k = 2 ∧ 48 ≤ T p.toNat ∧ T p.toNat ≤ 57)) : isTk T (p + 1) k w s e := by
  obtain ⟨h1, h2, h3, h4, h5, h6, h7, h8⟩ := h
  refine ⟨h1, h2, by omega, h4, h5, h6, fun z => ?_, fun z => ?_⟩
  · obtain ⟨a1, a2, a3⟩ := h7 z
    refine ⟨a1, fun y => ?_, a3⟩
    by_cases c : e = p
    · rw [c]
      intro x
      exact (hn c).1 ⟨z, x⟩
    · exact a2 (by omega)
  · obtain ⟨a1, a2, a3⟩ := h8 z
    refine ⟨a1, fun y => ?_, a3⟩
    by_cases c : e = p
    · rw [c]
      intro x
      exact (hn c).2 ⟨z, x⟩
    · exact a2 (by omega)
theorem isSk.ext {T : Nat → Int} {p a b : Int} (h : isSk T p a b) (hb : b < p) : isSk T (p + 1) a b := by
  obtain ⟨h1, h2, h3, h4⟩ := h
  exact ⟨h1, by omega, h3, fun _ => h4 hb⟩
def TKc (T : Nat → Int) (p k s e v : Int) : Prop := isTk T p k (wof T k s e) s e ∧ (k = 2 → cap v (nv T s.toNat (e - s).toNat))
def TZc (T : Nat → Int) (p : Int) (K S E V : Nat → Int) (t : Nat) : Prop :=
  (∀ i : Nat, i < t → TKc T p (K i) (S i) (E i) (V i)) ∧ (t = 0 → ∀ j : Nat, (j : Int) < p → T j = 32) ∧ (0 < t → isSk T p 0 (S 0)) ∧ (∀ i : Nat, i + 1 < t → isSk T p (E i) (S (i + 1))) ∧ (0 < t → ∀ j : Nat, E (t - 1) ≤ j → (j : Int) < p → T j = 32)
/-- the last token is still to take the byte at p -/
def TZo (T : Nat → Int) (p : Int) (K S E V : Nat → Int) (t : Nat) : Prop :=
  0 < t ∧ T p.toNat ≠ 32 ∧ (∀ i : Nat, i + 1 < t → TKc T (p + 1) (K i) (S i) (E i) (V i)) ∧ isSk T (p + 1) 0 (S 0) ∧ (∀ i : Nat, i + 1 < t → isSk T (p + 1) (E i) (S (i + 1))) ∧
  (0 ≤ S (t - 1) ∧ S (t - 1) ≤ p ∧ E (t - 1) = p ∧ T (S (t - 1)).toNat ≠ 32 ∧ K (t - 1) = kdO (T (S (t - 1)).toNat) ∧ K (t - 1) = kdO (T p.toNat)) ∧
  (K (t - 1) = 3 → S (t - 1) = p) ∧ (K (t - 1) = 1 → ∀ j : Nat, S (t - 1) ≤ j → (j : Int) < p → 97 ≤ T j ∧ T j ≤ 122) ∧
  (K (t - 1) = 2 → (∀ j : Nat, S (t - 1) ≤ j → (j : Int) < p → 48 ≤ T j ∧ T j ≤ 57) ∧ cap (V (t - 1)) (nv T (S (t - 1)).toNat (p - S (t - 1)).toNat))
theorem TZc.zero (T : Nat → Int) (K S E V : Nat → Int) : TZc T 0 K S E V 0 := ⟨fun i h => absurd h (by omega), fun _ j h => absurd h (by omega), fun h => absurd h (by omega), fun i h => absurd h (by omega), fun h => absurd h (by omega)⟩
theorem TKc.ext {T : Nat → Int} {p k s e v : Int} (h : TKc T p k s e v) (hn : e = p → ¬ (k = 1 ∧ 97 ≤ T p.toNat ∧ T p.toNat ≤ 122) ∧ ¬ (k = 2 ∧ 48 ≤ T p.toNat ∧ T p.toNat ≤ 57)) : TKc T (p + 1) k s e v := ⟨h.1.ext hn, h.2⟩
/-- ends lie in order -/
theorem TZc.le {T : Nat → Int} {p : Int} {K S E V : Nat → Int} {t : Nat} (h : TZc T p K S E V t) {i : Nat} (hi : i < t) : 0 ≤ S i ∧ S i < E i ∧ E i ≤ p := ⟨(h.1 i hi).1.1, (h.1 i hi).1.2.1, (h.1 i hi).1.2.2.1⟩
theorem TZc.lt {T : Nat → Int} {p : Int} {K S E V : Nat → Int} {t : Nat} (h : TZc T p K S E V t) {i : Nat} (hi : i + 1 < t) : E i < p := by
  have a := h.le (i := i + 1) hi
  have b := (h.2.2.2.1 i hi).1
  omega
theorem TZc.blank {T : Nat → Int} {p : Int} {K S E V : Nat → Int} {t : Nat} (h : TZc T p K S E V t) (hp : 0 ≤ p) (hb : T p.toNat = 32) : TZc T (p + 1) K S E V t := by
  refine ⟨fun i hi => (h.1 i hi).ext (fun _ => by rw [hb]; omega), fun z j hj => ?_, fun z => (h.2.2.1 z).ext (by have := h.le z; omega), fun i hi => (h.2.2.2.1 i hi).ext (by have := h.le hi; omega), fun z j h1 h2 => ?_⟩
  · by_cases c : (j : Int) = p
    · rw [show j = p.toNat by omega]; exact hb
    · exact h.2.1 z j (by omega)
  · by_cases c : (j : Int) = p
    · rw [show j = p.toNat by omega]; exact hb
    · exact h.2.2.2.2 z j h1 (by omega)
/-- the last token's end, and the byte ahead of p -/
theorem TZc.last {T : Nat → Int} {p : Int} {K S E V : Nat → Int} {t : Nat} (h : TZc T p K S E V t) (hp : 0 < p) (hb : T (p - 1).toNat ≠ 32) : 0 < t ∧ E (t - 1) = p := by
  have ht : 0 < t := by
    rcases Nat.eq_zero_or_pos t with z | z
    · exact absurd (h.2.1 z (p - 1).toNat (by omega)) hb
    · exact z
  refine ⟨ht, ?_⟩
  have a := h.le (i := t - 1) (by omega)
  by_cases c : E (t - 1) = p
  · exact c
  · exact absurd (h.2.2.2.2 ht (p - 1).toNat (by omega) (by omega)) hb
/-- the kind of a token's last byte -/
theorem TZc.kind {T : Nat → Int} {p : Int} {K S E V : Nat → Int} {t : Nat} (h : TZc T p K S E V t) (ht : 0 < t) (he : E (t - 1) = p) : K (t - 1) = kdO (T (p - 1).toNat) ∧ 0 < p := by
  obtain ⟨⟨h1, h2, h3, h4, h5, h6, h7, h8⟩, -⟩ := h.1 (t - 1) (by omega)
  rw [he] at h2 h6 h7 h8
  refine ⟨?_, by omega⟩
  rcases kdO_c (T (S (t - 1)).toNat) with ⟨c, -⟩ | ⟨c, -⟩ | ⟨c, -⟩ <;> rw [c] at h5
  · have := (h7 h5).1 (p - 1).toNat (by omega) (by omega)
    rw [h5]
    unfold kdO
    rw [if_pos this]
  · have := (h8 h5).1 (p - 1).toNat (by omega) (by omega)
    rw [h5]
    unfold kdO
    rw [if_neg (by omega), if_pos this]
  · have := (h6 h5).1
    rw [show p - 1 = S (t - 1) by omega, h5, c]
theorem TZc.grow {T : Nat → Int} {p : Int} {K S E V : Nat → Int} {t : Nat} (h : TZc T p K S E V t) (hp : 0 < p) (hb : T p.toNat ≠ 32) (hk : kdO (T p.toNat) ≠ 3) (he : kdO (T (p - 1).toNat) = kdO (T p.toNat)) : TZo T p K S E V t := by
  have hb1 : T (p - 1).toNat ≠ 32 := fun z => by
    rw [z] at he
    rw [← he] at hk
    exact hk rfl
  obtain ⟨ht, hl⟩ := h.last hp hb1
  have k1 := (h.kind ht hl).1
  obtain ⟨⟨h1, h2, h3, h4, h5, h6, h7, h8⟩, h9⟩ := h.1 (t - 1) (by omega)
  refine ⟨ht, hb, fun i hi => (h.1 i (by omega)).ext (fun z => by have := h.lt hi; omega), (h.2.2.1 ht).ext (by have := h.le ht; omega), fun i hi => (h.2.2.2.1 i hi).ext (by have := h.le hi; omega), ⟨h1, by omega, hl, h4, h5, by rw [k1, he]⟩, fun z => absurd (by rw [← he, ← k1]; exact z) hk, fun z => ?_, fun z => ?_⟩
  · have := (h7 z).1
    rw [hl] at this
    exact this
  · have a := (h8 z).1
    have b := h9 z
    rw [hl] at a b
    exact ⟨a, b⟩
theorem TZc.new {T : Nat → Int} {p : Int} {K S E V K' S' E' V' : Nat → Int} {t : Nat} (h : TZc T p K S E V t) (hp : 0 ≤ p) (hb : T p.toNat ≠ 32) (hf : kdO (T p.toNat) = 3 ∨ p = 0 ∨ kdO (T (p - 1).toNat) ≠ kdO (T p.toNat)) (eK : K' = ms K t (kdO (T p.toNat))) (eS : S' = ms S t p) (eE : E' = ms E t p) (eV : V' = ms V t 0) : TZo T p K' S' E' V' (t + 1) := by
  have o : ∀ i : Nat, i < t → K' i = K i ∧ S' i = S i ∧ E' i = E i ∧ V' i = V i := fun i hi => by
    rw [eK, eS, eE, eV]
    exact ⟨ms_ne _ _ (by omega), ms_ne _ _ (by omega), ms_ne _ _ (by omega), ms_ne _ _ (by omega)⟩
  have aK : K' t = kdO (T p.toNat) := by rw [eK]; exact ms_at _ _ _
  have aS : S' t = p := by rw [eS]; exact ms_at _ _ _
  have aE : E' t = p := by rw [eE]; exact ms_at _ _ _
  have aV : V' t = 0 := by rw [eV]; exact ms_at _ _ _
  have sk : ∀ a : Int, a ≤ p → (∀ j : Nat, a ≤ j → (j : Int) < p → T j = 32) → isSk T (p + 1) a p := fun a h1 h2 => ⟨h1, by omega, h2, fun _ => hb⟩
  have hn : ∀ i : Nat, i < t → E i = p → ¬ (K i = 1 ∧ 97 ≤ T p.toNat ∧ T p.toNat ≤ 122) ∧ ¬ (K i = 2 ∧ 48 ≤ T p.toNat ∧ T p.toNat ≤ 57) := fun i hi z => by
    have hl : i = t - 1 := by
      by_cases c : i + 1 < t
      · have := h.lt c; omega
      · omega
    subst hl
    obtain ⟨k1, k2⟩ := h.kind (by omega) z
    have q := kdO_c (T p.toNat)
    omega
  refine ⟨by omega, hb, fun i hi => ?_, ?_, fun i hi => ?_, ?_, ?_, ?_, ?_⟩
  · obtain ⟨o1, o2, o3, o4⟩ := o i (by omega)
    rw [o1, o2, o3, o4]
    exact (h.1 i (by omega)).ext (hn i (by omega))
  · rcases Nat.eq_zero_or_pos t with z | z
    · subst z
      rw [aS]
      exact sk 0 hp (fun j h1 h2 => h.2.1 rfl j h2)
    · rw [(o 0 z).2.1]
      exact (h.2.2.1 z).ext (by have := h.le z; omega)
  · by_cases c : i + 1 < t
    · rw [(o i (by omega)).2.2.1, (o (i + 1) c).2.1]
      exact (h.2.2.2.1 i c).ext (by have := h.le c; omega)
    · have : t = i + 1 := by omega
      subst this
      rw [(o i (by omega)).2.2.1, aS]
      exact sk _ (h.le (i := i) (by omega)).2.2 (fun j h1 h2 => h.2.2.2.2 (by omega) j (by rw [Nat.add_sub_cancel]; exact h1) h2)
  · rw [Nat.add_sub_cancel, aK, aS, aE]
    exact ⟨hp, by omega, rfl, hb, rfl, rfl⟩
  · rw [Nat.add_sub_cancel, aS]
    exact fun _ => rfl
  · rw [Nat.add_sub_cancel, aS]
    exact fun _ j h1 h2 => absurd h2 (by omega)
  · rw [Nat.add_sub_cancel, aS, aV]
    refine fun _ => ⟨fun j h1 h2 => absurd h2 (by omega), ?_⟩
    rw [show (p - p).toNat = 0 by omega]
    exact ⟨fun _ => rfl, fun z => absurd z (by show ¬ (1000 : Int) < 0; omega)⟩
theorem TZo.take {T : Nat → Int} {p : Int} {K S E V E' V' : Nat → Int} {t : Nat} (h : TZo T p K S E V t) (hp : 0 ≤ p) (eE : E' = ms E (t - 1) (p + 1)) (eV : (K (t - 1) ≠ 2 → V' = V) ∧ (K (t - 1) = 2 → V' = ms V (t - 1) (if V (t - 1) * 10 + T p.toNat - 48 < 1001 then V (t - 1) * 10 + T p.toNat - 48 else 1001))) : TZc T (p + 1) K S E' V' t := by
  obtain ⟨ht, hb, h1, h2, h3, ⟨a1, a2, a3, a4, a5, a6⟩, h5, h6, h7⟩ := h
  have aE : E' (t - 1) = p + 1 := by rw [eE]; exact ms_at _ _ _
  have oE : ∀ i : Nat, i + 1 < t → E' i = E i := fun i hi => by rw [eE]; exact ms_ne _ _ (by omega)
  have oV : ∀ i : Nat, i + 1 < t → V' i = V i := fun i hi => by
    by_cases c : K (t - 1) = 2
    · rw [eV.2 c]; exact ms_ne _ _ (by omega)
    · rw [eV.1 c]
  have kc := kdO_c (T p.toNat)
  rw [← a6] at kc
  refine ⟨fun i hi => ?_, fun z => absurd z (by omega), fun _ => h2, fun i hi => by rw [oE i hi]; exact h3 i hi, fun _ j g1 g2 => absurd g1 (by rw [aE]; omega)⟩
  by_cases c : i + 1 < t
  · rw [oE i c, oV i c]; exact h1 i c
  · have hi' : i = t - 1 := by omega
    subst hi'
    rw [aE]
    have et : ∀ j : Nat, S (t - 1) ≤ j → (j : Int) < p + 1 → ¬ (j : Int) < p → j = p.toNat := fun j g1 g2 g3 => by omega
    refine ⟨⟨a1, by omega, by omega, a4, a5, fun z => ⟨by have := h5 z; omega, ?_⟩, fun z => ⟨fun j g1 g2 => ?_, fun g => absurd g (by omega), ?_⟩, fun z => ⟨fun j g1 g2 => ?_, fun g => absurd g (by omega), ?_⟩⟩, fun z => ?_⟩
    · unfold wof
      rw [if_neg (by omega), if_neg (by omega)]
    · by_cases d : (j : Int) < p
      · exact h6 z j g1 d
      · rw [et j g1 g2 d]; omega
    · unfold wof
      rw [if_pos z]
    · by_cases d : (j : Int) < p
      · exact (h7 z).1 j g1 d
      · rw [et j g1 g2 d]; omega
    · unfold wof
      rw [if_neg (by omega), if_pos z]
    · have b := (h7 z).2
      rw [eV.2 z, ms_at, show (p + 1 - S (t - 1)).toNat = (p - S (t - 1)).toNat + 1 by omega]
      refine cap.s b (nv_b _ (fun k hk => (h7 z).1 _ (by omega) (by omega))).1 (d := T p.toNat) (by rw [show (S (t - 1)).toNat + (p - S (t - 1)).toNat = p.toNat by omega]) (by omega) rfl
/-- with the end behind it, it is the stream -/
theorem TZc.fin {T : Nat → Int} {n : Int} {K S E V K' S' E' V' : Nat → Int} {t : Nat} (h : TZc T n K S E V t) (hn : 0 ≤ n) (eK : K' = ms K t 0) (eS : S' = ms S t n) (eE : E' = ms E t n) (eV : V' = ms V t 0) : TZ T n K' (fun i => wof T (K' i) (S' i) (E' i)) S' E' t ∧ ∀ i : Nat, i < t → K' i = 2 → cap (V' i) (wof T (K' i) (S' i) (E' i)) := by
  have o : ∀ i : Nat, i < t → K' i = K i ∧ S' i = S i ∧ E' i = E i ∧ V' i = V i := fun i hi => by
    rw [eK, eS, eE, eV]
    exact ⟨ms_ne _ _ (by omega), ms_ne _ _ (by omega), ms_ne _ _ (by omega), ms_ne _ _ (by omega)⟩
  have aK : K' t = 0 := by rw [eK]; exact ms_at _ _ _
  have aS : S' t = n := by rw [eS]; exact ms_at _ _ _
  refine ⟨⟨fun i hi => ?_, ⟨aK, aS⟩, ?_, fun i hi => ?_⟩, fun i hi hk => ?_⟩
  · obtain ⟨o1, o2, o3, o4⟩ := o i hi
    show isTk T n (K' i) (wof T (K' i) (S' i) (E' i)) (S' i) (E' i)
    rw [o1, o2, o3]
    exact (h.1 i hi).1
  · rcases Nat.eq_zero_or_pos t with z | z
    · subst z
      rw [aS]
      exact ⟨hn, by omega, fun j _ h2 => h.2.1 rfl j h2, fun g => absurd g (by omega)⟩
    · rw [(o 0 z).2.1]
      exact h.2.2.1 z
  · rw [(o i hi).2.2.1]
    by_cases c : i + 1 < t
    · rw [(o (i + 1) c).2.1]
      exact h.2.2.2.1 i c
    · have e : t = i + 1 := by omega
      subst e
      rw [aS]
      exact ⟨(h.le (i := i) (by omega)).2.2, by omega, fun j h1 h2 => h.2.2.2.2 (by omega) j (by rw [Nat.add_sub_cancel]; exact h1) h2, fun g => absurd g (by omega)⟩
  · obtain ⟨o1, o2, o3, o4⟩ := o i hi
    rw [o1] at hk
    rw [o1, o2, o3, o4]
    unfold wof
    rw [if_neg (by omega), if_pos hk]
    exact (h.1 i hi).2 hk
theorem g5m (x : Int) : (if 1001 < x then (1001 : Int) else x) = if x < 1001 then x else 1001 := by
  split <;> split <;> omega
theorem TZo.vb {T : Nat → Int} {p : Int} {K S E V : Nat → Int} {t : Nat} (h : TZo T p K S E V t) (hk : K (t - 1) = 2) : 0 ≤ V (t - 1) ∧ V (t - 1) ≤ 1001 := by
  obtain ⟨-, -, -, -, -, ⟨a1, a2, -⟩, -, -, h7⟩ := h
  obtain ⟨b1, b2⟩ := h7 hk
  have n := (nv_b (T := T) (s := (S (t - 1)).toNat) (p - S (t - 1)).toNat (fun k hk => b1 _ (by omega) (by omega))).1
  unfold cap at b2
  omega
