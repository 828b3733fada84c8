theorem fp_cmp0 {q : Nat} (hq : q < 2 ^ 62) : lg_cmp (lN q) 0 = 0 ↔ q = 0 := by
  have e0 : (0 : Int64) = lN 0 := rfl
  unfold lg_cmp
  rw [e0]
  by_cases e : q = 0
  · subst e; simp
  · have h1 : lN 0 < lN q := (pk_lLT (by omega) (by omega)).mpr (by omega)
    rw [if_pos h1]
    exact ⟨fun z => absurd z (by decide), fun z => absurd z e⟩
theorem fp_lne {q : Nat} (hq : q < 2 ^ 62) (h0 : 0 < q) : ¬ lN q = 0 := fun e => by
  have := (pk_lEQ (a := q) (b := 0) (by omega) (by omega)).mp e
  omega
theorem lp_share {X : fb_Cx} {w : fb_Wd} {P : Int32 → fb_Wd → Prop} {a b : Nat} {x : Int32} (h : fb_Ok tX8_share X (fb_kI P)) (ha : a < 2 ^ 62) (hb : b < 2 ^ 62) (hp : P x (fb_ul (fb_ul w 46 3 (lN (a / Nat.gcd a b))) 46 4 (lN (b / Nat.gcd a b)))) : ∀ q, q < 2 ^ 62 → ∀ p, p < 2 ^ 62 → Nat.gcd p q = Nat.gcd a b → (0 < p ∨ 0 < q) → fb_AW tX8_share X 6 [some (.ref 46), some (.long (lN a)), none, some (.long (lN b)), none, some (.int x), some (.long (lN p)), none, some (.long (lN q)), none, none, none] [] w := by
  intro q
  induction q using Nat.strongRecOn with
  | ind q IH0 =>
    intro hq62 p hp62 hg hpos
    have IH : ∀ m, m < q → ∀ p, p < 2 ^ 62 → Nat.gcd p m = Nat.gcd a b → (0 < p ∨ 0 < m) → fb_AW tX8_share X 6 [some (.ref 46), some (.long (lN a)), none, some (.long (lN b)), none, some (.int x), some (.long (lN p)), none, some (.long (lN m)), none, none, none] [] w := fun m hm => IH0 m hm (by omega)
    by_cases hq0 : q = 0
    · subst hq0
      have hpp : 0 < p := by omega
      have ep : p = Nat.gcd a b := by rw [← hg, Nat.gcd_zero_right]
      refine fw_lload h rfl rfl ?_
      refine fw_lconst h 0 rfl (by decide) ?_
      refine fw_lcmp h rfl ?_
      refine fw_if_eq h rfl (fun c10 => ?_) (fun c10 => False.elim (c10 ((fp_cmp0 (by omega)).mpr rfl)))
      refine fw_aload_n h rfl rfl ?_
      refine fw_lload_n h rfl rfl ?_
      refine fw_lload h rfl rfl ?_
      refine fw_ldiv h rfl (fp_lne hp62 hpp) ?_
      rw [pk_lDiv (by omega) (by omega) (by omega)]
      refine fw_putL h rfl fk_p_X8_106 rfl rfl ?_
      refine fw_aload_n h rfl rfl ?_
      refine fw_lload_n h rfl rfl ?_
      refine fw_lload h rfl rfl ?_
      refine fw_ldiv h rfl (fp_lne hp62 hpp) ?_
      rw [pk_lDiv (by omega) (by omega) (by omega)]
      refine fw_putL h rfl fk_p_X8_13 rfl rfl ?_
      refine fw_iload h rfl rfl ?_
      exact fw_iret h rfl rfl ⟨_, rfl, by rw [← ep] at hp; exact hp⟩
    · refine fw_lload h rfl rfl ?_
      refine fw_lconst h 0 rfl (by decide) ?_
      refine fw_lcmp h rfl ?_
      refine fw_if_eq h rfl (fun c10 => False.elim (hq0 ((fp_cmp0 (by omega)).mp c10))) (fun c10 => ?_)
      refine fw_lload h rfl rfl ?_
      refine fw_lload h rfl rfl ?_
      refine fw_lrem h rfl (fp_lne (by omega) (by omega)) ?_
      rw [pk_lRem (by omega) (by omega) (by omega)]
      refine fw_lstore h [_, _, _, _, _, _, _, _, _, _, _, _] rfl rfl rfl rfl ?_
      refine fw_lload h rfl rfl ?_
      refine fw_lstore h [_, _, _, _, _, _, _, _, _, _, _, _] rfl rfl rfl rfl ?_
      refine fw_lload h rfl rfl ?_
      refine fw_lstore h [_, _, _, _, _, _, _, _, _, _, _, _] rfl rfl rfl rfl ?_
      refine fw_goto h rfl ?_
      refine fw_sub (fb_pad_c (Or.inr rfl) (fb_pad_c (Or.inr rfl) (fb_pad_c (Or.inr rfl) (fb_pad_c (Or.inr rfl) (fb_pad_c (Or.inr rfl) (fb_pad_c (Or.inr rfl) (fb_pad_c (Or.inr rfl) (fb_pad_c (Or.inr rfl) (fb_pad_c (Or.inr rfl) (fb_pad_c (Or.inr rfl) (fb_pad_c (Or.inl rfl) (fb_pad_c (Or.inr rfl) (fb_pad_n))))))))))))) (IH (p % q) (Nat.mod_lt _ (by omega)) q (by omega) ?_ (Or.inl (by omega)))
      rw [← hg, Nat.gcd_comm q, ← Nat.gcd_rec, Nat.gcd_comm]
theorem c_X8_share {l : Launch} {w : fb_Wd} {P : Int32 → fb_Wd → Prop} {a b : Nat} {x : Int32} (ha : a < 2 ^ 62) (hb : b < 2 ^ 62) (hb0 : 0 < b) (hp : P x (fb_ul (fb_ul w 46 3 (lN (a / Nat.gcd a b))) 46 4 (lN (b / Nat.gcd a b)))) : fb_Can l tX8_share [.ref 46, .long (lN a), .long (lN b), .int x] w (fb_kI P) := by
  refine fb_intro 6 fk_t_X8_share (by decide) rfl (fun X hX h => ?_)
  subst hX
  change fb_AW tX8_share X 0 [some (.ref 46), some (.long (lN a)), none, some (.long (lN b)), none, some (.int x), none, none, none, none, none, none] [] w
  refine fw_lload_n h rfl rfl ?_
  refine fw_lstore h [_, _, _, _, _, _, _, _, _, _, _, _] rfl rfl rfl rfl ?_
  refine fw_lload_n h rfl rfl ?_
  refine fw_lstore h [_, _, _, _, _, _, _, _, _, _, _, _] rfl rfl rfl rfl ?_
  exact lp_share h ha hb hp b hb a ha rfl (Or.inr hb0)
