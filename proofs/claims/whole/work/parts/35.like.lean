theorem lkF {b : Bool} {P : Prop} {E : Nat → Prop} {i : Nat} (he : b = true ↔ P ∧ ∀ k, k < i → E k) (h : b = false) : false = true ↔ P ∧ ∀ k, k < i + 1 → E k := by
  subst h
  exact ⟨fun q => absurd q (by decide), fun q => he.mpr ⟨q.1, fun k hk => q.2 k (by omega)⟩⟩
theorem lkN {b : Bool} {P : Prop} {E : Nat → Prop} {i : Nat} (_he : b = true ↔ P ∧ ∀ k, k < i → E k) (h : ¬ E i) : false = true ↔ P ∧ ∀ k, k < i + 1 → E k :=
  ⟨fun q => absurd q (by decide), fun q => absurd (q.2 i (by omega)) h⟩
theorem lkY {b : Bool} {P : Prop} {E : Nat → Prop} {i : Nat} (he : b = true ↔ P ∧ ∀ k, k < i → E k) (h : b = true) (h2 : E i) : true = true ↔ P ∧ ∀ k, k < i + 1 → E k := by
  have h0 := he.mp h
  exact ⟨fun _ => ⟨h0.1, fun k hk => if e : k = i then e ▸ h2 else h0.2 k (by omega)⟩, fun _ => rfl⟩
theorem lkO {b : Bool} {P : Prop} {E : Nat → Prop} {i n : Nat} (he : b = true ↔ P ∧ ∀ k, k < i → E k) (h : b = false) (hi : i ≤ n) : b = true ↔ P ∧ ∀ k, k < n → E k := by
  subst h
  exact ⟨fun q => absurd q (by decide), fun q => he.mpr ⟨q.1, fun k hk => q.2 k (by omega)⟩⟩
def lk1 (M : Mem) (t u k : Nat) : Prop := k = 0 ∨ M.1 (t + 15) k = M.1 (u + 15) k
def lk2 (M : Mem) (t u k : Nat) : Prop := M.1 (t + 1) k = M.1 (u + 1) k ∧ M.1 (t + 4) k = M.1 (u + 4) k ∧ M.1 (t + 5) k = M.1 (u + 5) k
def lk3 (M : Mem) (t u k : Nat) : Prop := M.1 (t + 11) k = M.1 (u + 11) k
/-- the same people and debts in number, the same of the laws 1, 2, of coin, hidden, noon; the same standing -/
def likeT (M : Mem) (t u n m : Nat) : Prop := (((M.1 t 15 = M.1 u 15 ∧ M.1 t 16 = M.1 u 16) ∧ ∀ k, k < 3 → lk1 M t u k) ∧ ∀ k, k < n → lk2 M t u k) ∧ ∀ k, k < m → lk3 M t u k
set_option maxRecDepth 100000 in
set_option maxHeartbeats 4000000 in
theorem l_isLike3 {t u : Nat} (ht : isTown t) (hu : isTown u) {M : Mem} {n m : Nat} (hn : M.1 t 15 = nI n) (hn8 : n ≤ 8) (hd0 : M.1 t 16 = nI m) (hm10 : m ≤ 10) {P : Prop} {v : Bool} (hv : v = true ↔ P ∧ ∀ k, k < m → lk3 M t u k) : ∀ (N : Nat) (i : Nat) (b : Bool), (i ≤ m) → (b = true ↔ P ∧ ∀ k, k < i → lk3 M t u k) → m - i < N → Reach cX8_isLike RX8 4 0 (FQ cX8_isLike (some .boolean) (some (.int (zI v))) M) 139 [some (.ref t), some (.ref u), some (.int (zI b)), some (.int (nI i))] [] (M) := by
  intro N
  induction N with
  | zero => intro i b hi he hm; exact absurd ‹_ < 0› (Nat.not_lt_zero _)
  | succ N ih =>
    intro i b hi he hm
    refine rx_iload_n (i := 3) dX8_isLike_139 rfl rfl ?_
    refine rx_aload_n (i := 0) dX8_isLike_140 rfl rfl ?_
    refine rx_getI (k := 16) fo_X8_70 (kt_0 ht) (by decide) ti_8_16 dX8_isLike_141 ?_
    refine rx_icmp_ge (tgt := 178) dX8_isLike_144 (by decide) (fun c144 => ?_) (fun c144 => ?_)
    · skip
      have f144 := Int32.not_lt.mpr c144
      rw [hd0, nI_leI (by omega) (by omega)] at c144
      obtain rfl : i = m := by omega
      obtain rfl : b = v := Bool.eq_iff_iff.mpr (he.trans hv.symm)
      refine rx_iload_n (i := 2) dX8_isLike_178 rfl rfl ?_
      exact rx_fiZ dX8_isLike_179 (zI_01 _) rfl rfl
    · skip
      have f144 := Int32.not_le.mp c144
      rw [hd0, nI_leI (by omega) (by omega)] at c144
      refine rx_iload_n (i := 2) dX8_isLike_147 rfl rfl ?_
      refine rx_if_eq (tgt := 178) dX8_isLike_148 (by decide) (fun c148 => ?_) (fun c148 => ?_)
      · skip
        have eb : b = false := zI_0.mp c148
        obtain rfl : b = v := Bool.eq_iff_iff.mpr ((lkO he eb (by omega)).trans hv.symm)
        refine rx_iload_n (i := 2) dX8_isLike_178 rfl rfl ?_
        exact rx_fiZ dX8_isLike_179 (zI_01 _) rfl rfl
      · skip
        have eb : b = true := Decidable.byContradiction fun q => c148 (zI_0.mpr (by simpa using q))
        refine rx_aload_n (i := 0) dX8_isLike_151 rfl rfl ?_
        refine rx_getR (t + 11) (k := 10) fo_X8_42 (kt_0 ht) (by decide) ti_8_10 (by rintro ⟨-, h⟩; omega) (rt_T ht 10 _ (by omega)) dX8_isLike_152 ?_
        refine rx_iload_n (i := 3) dX8_isLike_155 rfl rfl ?_
        refine rx_ialdN (kt_11 ht) (by omega) (by first | decide | omega) dX8_isLike_156 ?_
        refine rx_aload_n (i := 1) dX8_isLike_157 rfl rfl ?_
        refine rx_getR (u + 11) (k := 10) fo_X8_42 (kt_0 hu) (by decide) ti_8_10 (by rintro ⟨-, h⟩; omega) (rt_T hu 10 _ (by omega)) dX8_isLike_158 ?_
        refine rx_iload_n (i := 3) dX8_isLike_161 rfl rfl ?_
        refine rx_ialdN (kt_11 hu) (by omega) (by first | decide | omega) dX8_isLike_162 ?_
        refine rx_icmp_ne (tgt := 170) dX8_isLike_163 (by decide) (fun c163 => ?_) (fun c163 => ?_)
        · skip
          refine rx_iconst (0) dX8_isLike_170 rfl ?_
          refine rx_istore_n (i := 2) dX8_isLike_171 rfl (by decide) rfl rfl ?_
          first | refine rx_iincN (i := 3) dX8_isLike_172 rfl (by decide) rfl rfl ?_ | refine rx_iinc (i := 3) dX8_isLike_172 rfl rfl (by decide) rfl rfl ?_
          refine rx_goto (tgt := 139) dX8_isLike_175 (by decide) ?_
          exact ih (i + 1) false (by omega) (lkN he c163) (by omega)
        · skip
          refine rx_iconst (1) dX8_isLike_166 rfl ?_
          refine rx_goto (tgt := 171) dX8_isLike_167 (by decide) ?_
          refine rx_istore_n (i := 2) dX8_isLike_171 rfl (by decide) rfl rfl ?_
          first | refine rx_iincN (i := 3) dX8_isLike_172 rfl (by decide) rfl rfl ?_ | refine rx_iinc (i := 3) dX8_isLike_172 rfl rfl (by decide) rfl rfl ?_
          refine rx_goto (tgt := 139) dX8_isLike_175 (by decide) ?_
          exact ih (i + 1) true (by omega) (lkY he eb c163) (by omega)
set_option maxRecDepth 100000 in
set_option maxHeartbeats 4000000 in
theorem l_isLike2 {t u : Nat} (ht : isTown t) (hu : isTown u) {M : Mem} {n m : Nat} (hn : M.1 t 15 = nI n) (hn8 : n ≤ 8) (hd0 : M.1 t 16 = nI m) (hm10 : m ≤ 10) {P : Prop} {v : Bool} (hv : v = true ↔ (P ∧ ∀ k, k < n → lk2 M t u k) ∧ ∀ k, k < m → lk3 M t u k) : ∀ (N : Nat) (i : Nat) (b : Bool), (i ≤ n) → (b = true ↔ P ∧ ∀ k, k < i → lk2 M t u k) → n - i < N → Reach cX8_isLike RX8 4 0 (FQ cX8_isLike (some .boolean) (some (.int (zI v))) M) 68 [some (.ref t), some (.ref u), some (.int (zI b)), some (.int (nI i))] [] (M) := by
  intro N
  induction N with
  | zero => intro i b hi he hm; exact absurd ‹_ < 0› (Nat.not_lt_zero _)
  | succ N ih =>
    intro i b hi he hm
    refine rx_iload_n (i := 3) dX8_isLike_68 rfl rfl ?_
    refine rx_aload_n (i := 0) dX8_isLike_69 rfl rfl ?_
    refine rx_getI (k := 15) fo_X8_67 (kt_0 ht) (by decide) ti_8_15 dX8_isLike_70 ?_
    refine rx_icmp_ge (tgt := 137) dX8_isLike_73 (by decide) (fun c73 => ?_) (fun c73 => ?_)
    · skip
      have f73 := Int32.not_lt.mpr c73
      rw [hn, nI_leI (by omega) (by omega)] at c73
      obtain rfl : i = n := by omega
      have he2 := he
      refine rx_iconst (0) dX8_isLike_137 rfl ?_
      refine rx_istore_n (i := 3) dX8_isLike_138 rfl (by decide) rfl rfl ?_
      exact l_isLike3 ht hu hn hn8 hd0 hm10 hv (m + 1) 0 b (Nat.zero_le _) ⟨fun q => ⟨he2.mp q, fun k hk => absurd hk (Nat.not_lt_zero _)⟩, fun q => he2.mpr q.1⟩ (by omega)
    · skip
      have f73 := Int32.not_le.mp c73
      rw [hn, nI_leI (by omega) (by omega)] at c73
      refine rx_iload_n (i := 2) dX8_isLike_76 rfl rfl ?_
      refine rx_if_eq (tgt := 137) dX8_isLike_77 (by decide) (fun c77 => ?_) (fun c77 => ?_)
      · skip
        have eb : b = false := zI_0.mp c77
        have he2 := lkO (n := n) he eb (by omega)
        refine rx_iconst (0) dX8_isLike_137 rfl ?_
        refine rx_istore_n (i := 3) dX8_isLike_138 rfl (by decide) rfl rfl ?_
        exact l_isLike3 ht hu hn hn8 hd0 hm10 hv (m + 1) 0 b (Nat.zero_le _) ⟨fun q => ⟨he2.mp q, fun k hk => absurd hk (Nat.not_lt_zero _)⟩, fun q => he2.mpr q.1⟩ (by omega)
      · skip
        have eb : b = true := Decidable.byContradiction fun q => c77 (zI_0.mpr (by simpa using q))
        refine rx_aload_n (i := 0) dX8_isLike_80 rfl rfl ?_
        refine rx_getR (t + 1) (k := 0) fo_X8_9 (kt_0 ht) (by decide) ti_8_0 (by rintro ⟨-, h⟩; omega) (rt_T ht 0 _ (by omega)) dX8_isLike_81 ?_
        refine rx_iload_n (i := 3) dX8_isLike_84 rfl rfl ?_
        refine rx_ialdN (kt_1 ht) (by omega) (by first | decide | omega) dX8_isLike_85 ?_
        refine rx_aload_n (i := 1) dX8_isLike_86 rfl rfl ?_
        refine rx_getR (u + 1) (k := 0) fo_X8_9 (kt_0 hu) (by decide) ti_8_0 (by rintro ⟨-, h⟩; omega) (rt_T hu 0 _ (by omega)) dX8_isLike_87 ?_
        refine rx_iload_n (i := 3) dX8_isLike_90 rfl rfl ?_
        refine rx_ialdN (kt_1 hu) (by omega) (by first | decide | omega) dX8_isLike_91 ?_
        refine rx_icmp_ne (tgt := 129) dX8_isLike_92 (by decide) (fun c92 => ?_) (fun c92 => ?_)
        · skip
          refine rx_iconst (0) dX8_isLike_129 rfl ?_
          refine rx_istore_n (i := 2) dX8_isLike_130 rfl (by decide) rfl rfl ?_
          first | refine rx_iincN (i := 3) dX8_isLike_131 rfl (by decide) rfl rfl ?_ | refine rx_iinc (i := 3) dX8_isLike_131 rfl rfl (by decide) rfl rfl ?_
          refine rx_goto (tgt := 68) dX8_isLike_134 (by decide) ?_
          exact ih (i + 1) false (by omega) (lkN he (fun q => c92 q.1)) (by omega)
        · skip
          refine rx_aload_n (i := 0) dX8_isLike_95 rfl rfl ?_
          refine rx_getR (t + 4) (k := 3) fo_X8_21 (kt_0 ht) (by decide) ti_8_3 (by rintro ⟨-, h⟩; omega) (rt_T ht 3 _ (by omega)) dX8_isLike_96 ?_
          refine rx_iload_n (i := 3) dX8_isLike_99 rfl rfl ?_
          refine rx_ialdN (kt_4 ht) (by omega) (by first | decide | omega) dX8_isLike_100 ?_
          refine rx_aload_n (i := 1) dX8_isLike_101 rfl rfl ?_
          refine rx_getR (u + 4) (k := 3) fo_X8_21 (kt_0 hu) (by decide) ti_8_3 (by rintro ⟨-, h⟩; omega) (rt_T hu 3 _ (by omega)) dX8_isLike_102 ?_
          refine rx_iload_n (i := 3) dX8_isLike_105 rfl rfl ?_
          refine rx_ialdN (kt_4 hu) (by omega) (by first | decide | omega) dX8_isLike_106 ?_
          refine rx_icmp_ne (tgt := 129) dX8_isLike_107 (by decide) (fun c107 => ?_) (fun c107 => ?_)
          · skip
            refine rx_iconst (0) dX8_isLike_129 rfl ?_
            refine rx_istore_n (i := 2) dX8_isLike_130 rfl (by decide) rfl rfl ?_
            first | refine rx_iincN (i := 3) dX8_isLike_131 rfl (by decide) rfl rfl ?_ | refine rx_iinc (i := 3) dX8_isLike_131 rfl rfl (by decide) rfl rfl ?_
            refine rx_goto (tgt := 68) dX8_isLike_134 (by decide) ?_
            exact ih (i + 1) false (by omega) (lkN he (fun q => c107 q.2.1)) (by omega)
          · skip
            refine rx_aload_n (i := 0) dX8_isLike_110 rfl rfl ?_
            refine rx_getR (t + 5) (k := 4) fo_X8_24 (kt_0 ht) (by decide) ti_8_4 (by rintro ⟨-, h⟩; omega) (rt_T ht 4 _ (by omega)) dX8_isLike_111 ?_
            refine rx_iload_n (i := 3) dX8_isLike_114 rfl rfl ?_
            refine rx_ialdN (kt_5 ht) (by omega) (by first | decide | omega) dX8_isLike_115 ?_
            refine rx_aload_n (i := 1) dX8_isLike_116 rfl rfl ?_
            refine rx_getR (u + 5) (k := 4) fo_X8_24 (kt_0 hu) (by decide) ti_8_4 (by rintro ⟨-, h⟩; omega) (rt_T hu 4 _ (by omega)) dX8_isLike_117 ?_
            refine rx_iload_n (i := 3) dX8_isLike_120 rfl rfl ?_
            refine rx_ialdN (kt_5 hu) (by omega) (by first | decide | omega) dX8_isLike_121 ?_
            refine rx_icmp_ne (tgt := 129) dX8_isLike_122 (by decide) (fun c122 => ?_) (fun c122 => ?_)
            · skip
              refine rx_iconst (0) dX8_isLike_129 rfl ?_
              refine rx_istore_n (i := 2) dX8_isLike_130 rfl (by decide) rfl rfl ?_
              first | refine rx_iincN (i := 3) dX8_isLike_131 rfl (by decide) rfl rfl ?_ | refine rx_iinc (i := 3) dX8_isLike_131 rfl rfl (by decide) rfl rfl ?_
              refine rx_goto (tgt := 68) dX8_isLike_134 (by decide) ?_
              exact ih (i + 1) false (by omega) (lkN he (fun q => c122 q.2.2)) (by omega)
            · skip
              refine rx_iconst (1) dX8_isLike_125 rfl ?_
              refine rx_goto (tgt := 130) dX8_isLike_126 (by decide) ?_
              refine rx_istore_n (i := 2) dX8_isLike_130 rfl (by decide) rfl rfl ?_
              first | refine rx_iincN (i := 3) dX8_isLike_131 rfl (by decide) rfl rfl ?_ | refine rx_iinc (i := 3) dX8_isLike_131 rfl rfl (by decide) rfl rfl ?_
              refine rx_goto (tgt := 68) dX8_isLike_134 (by decide) ?_
              exact ih (i + 1) true (by omega) (lkY he eb ⟨c92, c107, c122⟩) (by omega)
set_option maxRecDepth 100000 in
set_option maxHeartbeats 4000000 in
theorem l_isLike1 {t u : Nat} (ht : isTown t) (hu : isTown u) {M : Mem} {n m : Nat} (hn : M.1 t 15 = nI n) (hn8 : n ≤ 8) (hd0 : M.1 t 16 = nI m) (hm10 : m ≤ 10) {P : Prop} {v : Bool} (hv : v = true ↔ ((P ∧ ∀ k, k < 3 → lk1 M t u k) ∧ ∀ k, k < n → lk2 M t u k) ∧ ∀ k, k < m → lk3 M t u k) : ∀ (N : Nat) (i : Nat) (b : Bool), (i ≤ 3) → (1 ≤ i) → (b = true ↔ P ∧ ∀ k, k < i → lk1 M t u k) → 3 - i < N → Reach cX8_isLike RX8 4 0 (FQ cX8_isLike (some .boolean) (some (.int (zI v))) M) 30 [some (.ref t), some (.ref u), some (.int (zI b)), some (.int (nI i))] [] (M) := by
  intro N
  induction N with
  | zero => intro i b hi h1 he hm; exact absurd ‹_ < 0› (Nat.not_lt_zero _)
  | succ N ih =>
    intro i b hi h1 he hm
    refine rx_iload_n (i := 3) dX8_isLike_30 rfl rfl ?_
    refine rx_iconst (2) dX8_isLike_31 rfl ?_
    refine rx_icmp_gt (tgt := 66) dX8_isLike_32 (by decide) (fun c32 => ?_) (fun c32 => ?_)
    · skip
      have f32 := Int32.not_le.mpr c32
      have e32 : i = 3 := by
        have := (nI_ltI (a := 2) (b := i) (by omega) (by omega)).mp c32
        omega
      subst e32
      refine rx_iconst (0) dX8_isLike_66 rfl ?_
      refine rx_istore_n (i := 3) dX8_isLike_67 rfl (by decide) rfl rfl ?_
      exact l_isLike2 ht hu hn hn8 hd0 hm10 hv (n + 1) 0 b (Nat.zero_le _) ⟨fun q => ⟨he.mp q, fun k hk => absurd hk (Nat.not_lt_zero _)⟩, fun q => he.mpr q.1⟩ (by omega)
    · skip
      have f32 := Int32.not_lt.mp c32
      have e32 : i < 3 := by
        rcases Nat.lt_or_ge i 3 with q | q
        · exact q
        · exact absurd (nI_lt (a := 2) (b := i) (by omega) (by omega)) c32
      refine rx_iload_n (i := 2) dX8_isLike_35 rfl rfl ?_
      refine rx_if_eq (tgt := 58) dX8_isLike_36 (by decide) (fun c36 => ?_) (fun c36 => ?_)
      · skip
        have eb : b = false := zI_0.mp c36
        refine rx_iconst (0) dX8_isLike_58 rfl ?_
        refine rx_istore_n (i := 2) dX8_isLike_59 rfl (by decide) rfl rfl ?_
        first | refine rx_iincN (i := 3) dX8_isLike_60 rfl (by decide) rfl rfl ?_ | refine rx_iinc (i := 3) dX8_isLike_60 rfl rfl (by decide) rfl rfl ?_
        refine rx_goto (tgt := 30) dX8_isLike_63 (by decide) ?_
        exact ih (i + 1) false (by omega) (by omega) (lkF he eb) (by omega)
      · skip
        have eb : b = true := Decidable.byContradiction fun q => c36 (zI_0.mpr (by simpa using q))
        refine rx_aload_n (i := 0) dX8_isLike_39 rfl rfl ?_
        refine rx_getR (t + 15) (k := 14) fo_X8_54 (kt_0 ht) (by decide) ti_8_14 (by rintro ⟨-, h⟩; omega) (rt_T ht 14 _ (by omega)) dX8_isLike_40 ?_
        refine rx_iload_n (i := 3) dX8_isLike_43 rfl rfl ?_
        refine rx_ialdN (kt_15 ht) (by omega) (by first | decide | omega) dX8_isLike_44 ?_
        refine rx_aload_n (i := 1) dX8_isLike_45 rfl rfl ?_
        refine rx_getR (u + 15) (k := 14) fo_X8_54 (kt_0 hu) (by decide) ti_8_14 (by rintro ⟨-, h⟩; omega) (rt_T hu 14 _ (by omega)) dX8_isLike_46 ?_
        refine rx_iload_n (i := 3) dX8_isLike_49 rfl rfl ?_
        refine rx_ialdN (kt_15 hu) (by omega) (by first | decide | omega) dX8_isLike_50 ?_
        refine rx_icmp_ne (tgt := 58) dX8_isLike_51 (by decide) (fun c51 => ?_) (fun c51 => ?_)
        · skip
          refine rx_iconst (0) dX8_isLike_58 rfl ?_
          refine rx_istore_n (i := 2) dX8_isLike_59 rfl (by decide) rfl rfl ?_
          first | refine rx_iincN (i := 3) dX8_isLike_60 rfl (by decide) rfl rfl ?_ | refine rx_iinc (i := 3) dX8_isLike_60 rfl rfl (by decide) rfl rfl ?_
          refine rx_goto (tgt := 30) dX8_isLike_63 (by decide) ?_
          exact ih (i + 1) false (by omega) (by omega) (lkN he (fun q => q.elim (by omega) c51)) (by omega)
        · skip
          refine rx_iconst (1) dX8_isLike_54 rfl ?_
          refine rx_goto (tgt := 59) dX8_isLike_55 (by decide) ?_
          refine rx_istore_n (i := 2) dX8_isLike_59 rfl (by decide) rfl rfl ?_
          first | refine rx_iincN (i := 3) dX8_isLike_60 rfl (by decide) rfl rfl ?_ | refine rx_iinc (i := 3) dX8_isLike_60 rfl rfl (by decide) rfl rfl ?_
          refine rx_goto (tgt := 30) dX8_isLike_63 (by decide) ?_
          exact ih (i + 1) true (by omega) (by omega) (lkY he eb (Or.inr c51)) (by omega)
set_option maxRecDepth 100000 in
set_option maxHeartbeats 4000000 in
theorem c_X8_isLike {t u : Nat} (ht : isTown t) (hu : isTown u) {M : Mem} {n m : Nat} (hn : M.1 t 15 = nI n) (hn8 : n ≤ 8) (hd0 : M.1 t 16 = nI m) (hm10 : m ≤ 10) {v : Bool} (hv : v = true ↔ likeT M t u n m) : Fun yX8_isLike cX8_isLike 4 (some .boolean) 0 [.ref t, .ref u] M (some (.int (zI v))) (M) := by
  refine Fun.of (own := RX8) ([some (.ref t), some (.ref u), none, none]) rfl (by decide +kernel) (Nat.le_of_ble_eq_true rfl) rfl ?_
  refine rx_aload_n (i := 0) dX8_isLike_0 rfl rfl ?_
  refine rx_getI (k := 15) fo_X8_67 (kt_0 ht) (by decide) ti_8_15 dX8_isLike_1 ?_
  refine rx_aload_n (i := 1) dX8_isLike_4 rfl rfl ?_
  refine rx_getI (k := 15) fo_X8_67 (kt_0 hu) (by decide) ti_8_15 dX8_isLike_5 ?_
  refine rx_icmp_ne (tgt := 26) dX8_isLike_8 (by decide) (fun c8 => ?_) (fun c8 => ?_)
  · skip
    refine rx_iconst (0) dX8_isLike_26 rfl ?_
    refine rx_istore_n (i := 2) dX8_isLike_27 rfl (by decide) rfl rfl ?_
    refine rx_iconst (1) dX8_isLike_28 rfl ?_
    refine rx_istore_n (i := 3) dX8_isLike_29 rfl (by decide) rfl rfl ?_
    exact l_isLike1 ht hu hn hn8 hd0 hm10 (P := M.1 t 15 = M.1 u 15 ∧ M.1 t 16 = M.1 u 16) hv 4 1 false (by decide) (Nat.le_refl _) ⟨fun q => absurd q (by decide), fun q => absurd q.1.1 c8⟩ (by omega)
  · skip
    refine rx_aload_n (i := 0) dX8_isLike_11 rfl rfl ?_
    refine rx_getI (k := 16) fo_X8_70 (kt_0 ht) (by decide) ti_8_16 dX8_isLike_12 ?_
    refine rx_aload_n (i := 1) dX8_isLike_15 rfl rfl ?_
    refine rx_getI (k := 16) fo_X8_70 (kt_0 hu) (by decide) ti_8_16 dX8_isLike_16 ?_
    refine rx_icmp_ne (tgt := 26) dX8_isLike_19 (by decide) (fun c19 => ?_) (fun c19 => ?_)
    · skip
      refine rx_iconst (0) dX8_isLike_26 rfl ?_
      refine rx_istore_n (i := 2) dX8_isLike_27 rfl (by decide) rfl rfl ?_
      refine rx_iconst (1) dX8_isLike_28 rfl ?_
      refine rx_istore_n (i := 3) dX8_isLike_29 rfl (by decide) rfl rfl ?_
      exact l_isLike1 ht hu hn hn8 hd0 hm10 (P := M.1 t 15 = M.1 u 15 ∧ M.1 t 16 = M.1 u 16) hv 4 1 false (by decide) (Nat.le_refl _) ⟨fun q => absurd q (by decide), fun q => absurd q.1.2 c19⟩ (by omega)
    · skip
      refine rx_iconst (1) dX8_isLike_22 rfl ?_
      refine rx_goto (tgt := 27) dX8_isLike_23 (by decide) ?_
      refine rx_istore_n (i := 2) dX8_isLike_27 rfl (by decide) rfl rfl ?_
      refine rx_iconst (1) dX8_isLike_28 rfl ?_
      refine rx_istore_n (i := 3) dX8_isLike_29 rfl (by decide) rfl rfl ?_
      exact l_isLike1 ht hu hn hn8 hd0 hm10 (P := M.1 t 15 = M.1 u 15 ∧ M.1 t 16 = M.1 u 16) hv 4 1 true (by decide) (Nat.le_refl _) ⟨fun q => ⟨⟨c8, c19⟩, fun k hk => Or.inl (by omega)⟩, fun q => rfl⟩ (by omega)
