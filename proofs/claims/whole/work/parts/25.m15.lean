theorem fb_ul_ul (w : fb_Wd) (c k : Nat) (x y : Int64) : fb_ul (fb_ul w c k x) c k y = fb_ul w c k y := by
  unfold fb_ul
  congr 1
  funext a b
  by_cases h1 : a = c <;> by_cases h2 : b = k <;> simp [h1, h2]
theorem fb_ul_self (w : fb_Wd) (c k : Nat) : fb_ul w c k (w.2 c k) = w := by
  unfold fb_ul
  have : (fun a b => if a = c then (if b = k then w.2 c k else w.2 a b) else w.2 a b) = w.2 := by
    funext a b
    by_cases h1 : a = c
    · by_cases h2 : b = k
      · subst h1; subst h2; simp
      · simp [h2]
    · simp [h1]
  rw [this]
theorem mD_ul (w : fb_Wd) (c k : Nat) (x : Int64) : mD (fb_ul w c k x) = mD w := by
  funext i
  match i with
  | 0 | 1 | 2 | 3 | 4 | 5 | 6 | 7 | 8 | 9 | 10 | 11 | 12 | 13 | 14 | 15 | 16 | 17 | 18 | 19 | 20 | 21 | 22 | 23 => rfl
  | i + 24 => rfl
def fs_mix (h : Int64) (v : Int32) : Int64 := 31 * h + v.toInt64
def fs_mxF (h0 : Int64) (g : Nat → Int32) : Nat → Int64
  | 0 => h0
  | n + 1 => fs_mix (fs_mxF h0 g n) (g n)
def fs_mxA (D : Nat → Nat → Int32) (d : Nat) (h0 : Int64) : Nat → Int64
  | 0 => h0
  | k + 1 => fs_mix (fs_mix (fs_mix (fs_mix (fs_mxA D d h0 k) (D 9 (10 * d + k))) (D 10 (10 * d + k))) (D 11 (10 * d + k))) (if D 12 (10 * d + k) = 0 then nI 0 else nI 1)
theorem c_X8_mixW {l : Launch} {w : fb_Wd} {P : fb_Wd → Prop} {h : Int64} {v : Int32} (hp : P (fb_ul w 46 47 (fs_mix h v))) : fb_Can l tX8_mix [.ref 46, .int v] (fb_ul w 46 47 h) (fb_kV P) := by
  refine c_X8_mix ?_
  rw [fb_ul_ul, show (fb_ul w 46 47 h).2 46 47 = h from rfl]
  exact hp
def fs_mxD (D : Nat → Nat → Int32) (d m : Nat) (h0 : Int64) : Int64 := fs_mxA D d (fs_mxF h0 (fs_dt D d m) 6) m
theorem c_X8_deathW {l : Launch} {w : fb_Wd} {P : Int32 → fb_Wd → Prop} {d m : Nat} {hh : Int64} (hd : d < 12) (hm : w.1 59 d = nI m) (hm2 : m ≤ 10) {q : Nat} (hq : q ≤ 5) (hp : P (fs_dt (mD w) d m q) (fb_ul w 46 47 hh)) : fb_Can l tX8_deathTells [.ref 46, .int (nI d), .int (nI q)] (fb_ul w 46 47 hh) (fb_kI P) := by
  refine c_X8_deathTells (w := fb_ul w 46 47 hh) hd hm hm2 hq ?_
  rw [mD_ul]
  exact hp
theorem c_X8_mixDeath {l : Launch} {w : fb_Wd} {P : fb_Wd → Prop} {d m : Nat} {h0 : Int64} (hd : d < 12) (hm : w.1 59 d = nI m) (hm2 : m ≤ 10) (hp : P (fb_ul w 46 47 (fs_mxD (mD w) d m h0))) : fb_Can l tX8_mixDeath [.ref 46, .int (nI d)] (fb_ul w 46 47 h0) (fb_kV P) := by
  refine fb_intro 1 fk_t_X8_mixDeath (by decide) rfl (fun X hX h => ?_)
  subst hX
  change fb_AW tX8_mixDeath X 0 [some (.ref 46), some (.int (nI d)), none] [] (fb_ul w 46 47 h0)
  refine fw_iconst h (nI 0) rfl (by decide) ?_
  refine fw_istore_n h [_, _, _] rfl rfl rfl rfl ?_
  refine fb_loop (fun i => fb_AW tX8_mixDeath X 2 [some (.ref 46), some (.int (nI d)), some (.int (nI i))] [] (fb_ul w 46 47 (fs_mxF h0 (fs_dt (mD w) d m) i))) (6) ?_ (fun i hi ih => ?_) 0 (Nat.zero_le _)
  · refine fw_iload_n h rfl rfl ?_
    refine fw_iconst h (nI 5) rfl (by decide) ?_
    refine fw_icmp_gt h rfl (fun c4 => ?_) (fun c4 => False.elim (c4 (by decide)))
    refine fw_iconst h (nI 0) rfl (by decide) ?_
    refine fw_istore_n h [_, _, _] rfl rfl rfl rfl ?_
    refine fb_loop (fun i => fb_AW tX8_mixDeath X 25 [some (.ref 46), some (.int (nI d)), some (.int (nI i))] [] (fb_ul w 46 47 (fs_mxA (mD w) d (fs_mxF h0 (fs_dt (mD w) d m) 6) i))) (m) ?_ (fun i hi ih => ?_) 0 (Nat.zero_le _)
    · refine fw_iload_n h rfl rfl ?_
      refine fw_aload_n h rfl rfl ?_
      refine fw_getR _ h rfl fk_g_X8_50 rfl rfl ?_
      refine fw_iload_n h rfl rfl ?_
      refine fn_iald h rfl rfl (by omega) rfl ?_
      refine fw_icmp_ge h rfl (fun c32 => ?_) (fun c32 => False.elim (c32 (by rw [show (fb_ul w 46 47 (fs_mxA (mD w) d (fs_mxF h0 (fs_dt (mD w) d m) 6) m)).1 59 d = nI m from hm]; exact Int32.le_refl _)))
      exact fw_vret h rfl rfl ⟨rfl, hp⟩
    · refine fw_iload_n h rfl rfl ?_
      refine fw_aload_n h rfl rfl ?_
      refine fw_getR _ h rfl fk_g_X8_50 rfl rfl ?_
      refine fw_iload_n h rfl rfl ?_
      refine fn_ialdF (w.1 59) h rfl rfl (rfl) (by omega) rfl ?_
      refine fw_icmp_ge h rfl (fun c32 => False.elim (by rw [show w.1 59 d = nI m from hm] at c32; exact nI_ge hi (by omega) c32)) (fun c32 => ?_)
      refine fw_aload_n h rfl rfl ?_
      refine fw_aload_n h rfl rfl ?_
      refine fw_getR _ h rfl fk_g_X8_53 rfl rfl ?_
      refine fw_bipush h (nI 10) rfl (by decide) ?_
      refine fw_iload_n h rfl rfl ?_
      first | refine fn_imul h rfl ?_ | refine fw_imul h rfl ?_
      refine fw_iload_n h rfl rfl ?_
      first | refine fn_iadd h rfl ?_ | refine fw_iadd h rfl ?_
      refine fn_ialdF (w.1 60) h rfl rfl (rfl) (by omega) rfl ?_
      refine fw_v1V h rfl fk_v_X8_mix fk_l_X8_311 rfl rfl rfl rfl ?_
      refine c_X8_mixW ?_
      refine fw_aload_n h rfl rfl ?_
      refine fw_aload_n h rfl rfl ?_
      refine fw_getR _ h rfl fk_g_X8_56 rfl rfl ?_
      refine fw_bipush h (nI 10) rfl (by decide) ?_
      refine fw_iload_n h rfl rfl ?_
      first | refine fn_imul h rfl ?_ | refine fw_imul h rfl ?_
      refine fw_iload_n h rfl rfl ?_
      first | refine fn_iadd h rfl ?_ | refine fw_iadd h rfl ?_
      refine fn_ialdF (w.1 61) h rfl rfl (rfl) (by omega) rfl ?_
      refine fw_v1V h rfl fk_v_X8_mix fk_l_X8_311 rfl rfl rfl rfl ?_
      refine c_X8_mixW ?_
      refine fw_aload_n h rfl rfl ?_
      refine fw_aload_n h rfl rfl ?_
      refine fw_getR _ h rfl fk_g_X8_59 rfl rfl ?_
      refine fw_bipush h (nI 10) rfl (by decide) ?_
      refine fw_iload_n h rfl rfl ?_
      first | refine fn_imul h rfl ?_ | refine fw_imul h rfl ?_
      refine fw_iload_n h rfl rfl ?_
      first | refine fn_iadd h rfl ?_ | refine fw_iadd h rfl ?_
      refine fn_ialdF (w.1 62) h rfl rfl (rfl) (by omega) rfl ?_
      refine fw_v1V h rfl fk_v_X8_mix fk_l_X8_311 rfl rfl rfl rfl ?_
      refine c_X8_mixW ?_
      refine fw_aload_n h rfl rfl ?_
      refine fw_aload_n h rfl rfl ?_
      refine fw_getR _ h rfl fk_g_X8_62 rfl rfl ?_
      refine fw_bipush h (nI 10) rfl (by decide) ?_
      refine fw_iload_n h rfl rfl ?_
      first | refine fn_imul h rfl ?_ | refine fw_imul h rfl ?_
      refine fw_iload_n h rfl rfl ?_
      first | refine fn_iadd h rfl ?_ | refine fw_iadd h rfl ?_
      refine fn_zaldF (w.1 63) h rfl rfl (rfl) (by omega) rfl ?_
      refine fw_if_eq h rfl (fun c92 => ?_) (fun c92 => ?_)
      · have en : (if mD w 12 (10 * d + i) = 0 then nI 0 else nI 1) = nI 0 := if_pos c92
        refine fw_iconst h (nI 0) rfl (by decide) ?_
        refine fw_v1V h rfl fk_v_X8_mix fk_l_X8_311 rfl rfl rfl rfl ?_
        refine c_X8_mixW ?_
        first | refine fn_iinc h [_, _, _] rfl rfl rfl rfl rfl ?_ | refine fw_iinc h 1 [_, _, _] rfl (by decide) rfl rfl rfl rfl ?_
        refine fw_goto h rfl ?_
        rw [fs_mxA, en] at ih
        exact ih
      · have en : (if mD w 12 (10 * d + i) = 0 then nI 0 else nI 1) = nI 1 := if_neg c92
        refine fw_iconst h (nI 1) rfl (by decide) ?_
        refine fw_goto h rfl ?_
        refine fw_v1V h rfl fk_v_X8_mix fk_l_X8_311 rfl rfl rfl rfl ?_
        refine c_X8_mixW ?_
        first | refine fn_iinc h [_, _, _] rfl rfl rfl rfl rfl ?_ | refine fw_iinc h 1 [_, _, _] rfl (by decide) rfl rfl rfl rfl ?_
        refine fw_goto h rfl ?_
        rw [fs_mxA, en] at ih
        exact ih
  · refine fw_iload_n h rfl rfl ?_
    refine fw_iconst h (nI 5) rfl (by decide) ?_
    refine fw_icmp_gt h rfl (fun c4 => False.elim (absurd c4 (nI_nlt (by omega) (by decide)))) (fun c4 => ?_)
    refine fw_aload_n h rfl rfl ?_
    refine fw_aload_n h rfl rfl ?_
    refine fw_iload_n h rfl rfl ?_
    refine fw_iload_n h rfl rfl ?_
    refine fw_v2I h rfl fk_v_X8_deathTells fk_l_X8_179 rfl rfl rfl rfl ?_
    refine c_X8_deathW hd hm hm2 (by omega) ?_
    refine fw_v1V h rfl fk_v_X8_mix fk_l_X8_311 rfl rfl rfl rfl ?_
    refine c_X8_mixW ?_
    first | refine fn_iinc h [_, _, _] rfl rfl rfl rfl rfl ?_ | refine fw_iinc h 1 [_, _, _] rfl (by decide) rfl rfl rfl rfl ?_
    refine fw_goto h rfl ?_
    exact ih
