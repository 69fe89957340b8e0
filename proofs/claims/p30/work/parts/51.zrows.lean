/-! branches that are decided: rows of their own, so that only the road that is taken is computed -/
section DB
variable {G : Gx} {Γ : List (MI × PT)} {R : Room} {K : KT} {E : ET} {kk : List (Option Value) → List Value → SS → Nat → Nat → Prop} {pc x y z w : Nat} {L : List (Option Value)} {st : List Value} {S : SS} {cs sl : Nat}
theorem dec_t {c : Prop} {A B : Prop} (h : c) : ((c → A) ∧ (¬ c → B)) = A := propext ⟨fun q => q.1 h, fun q => ⟨fun _ => q, fun n => absurd h n⟩⟩
theorem dec_f {c : Prop} {A B : Prop} (h : ¬ c) : ((c → A) ∧ (¬ c → B)) = B := propext ⟨fun q => q.2 h, fun q => ⟨fun n => absurd n h, fun _ => q⟩⟩
theorem b_icmp_eq_t {o : Int} {a b : Int32} (h : a = b) : wp1 G Γ R K E kk (pc, .if_icmp .eq o, x, y, z, w) L (.int b :: .int a :: st) S cs sl = K z L st S cs sl := by rw [x_icmp_eq]; exact dec_t h
theorem b_icmp_eq_f {o : Int} {a b : Int32} (h : ¬ a = b) : wp1 G Γ R K E kk (pc, .if_icmp .eq o, x, y, z, w) L (.int b :: .int a :: st) S cs sl = kk L st S cs sl := by rw [x_icmp_eq]; exact dec_f h
theorem b_icmp_ne_t {o : Int} {a b : Int32} (h : ¬ a = b) : wp1 G Γ R K E kk (pc, .if_icmp .ne o, x, y, z, w) L (.int b :: .int a :: st) S cs sl = K z L st S cs sl := by rw [x_icmp_ne]; exact dec_t h
theorem b_icmp_ne_f {o : Int} {a b : Int32} (h : a = b) : wp1 G Γ R K E kk (pc, .if_icmp .ne o, x, y, z, w) L (.int b :: .int a :: st) S cs sl = kk L st S cs sl := by rw [x_icmp_ne]; exact dec_f (fun n => n h)
theorem b_icmp_lt_t {o : Int} {a b : Int32} (h : a < b) : wp1 G Γ R K E kk (pc, .if_icmp .lt o, x, y, z, w) L (.int b :: .int a :: st) S cs sl = K z L st S cs sl := by rw [x_icmp_lt]; exact dec_t h
theorem b_icmp_lt_f {o : Int} {a b : Int32} (h : ¬ a < b) : wp1 G Γ R K E kk (pc, .if_icmp .lt o, x, y, z, w) L (.int b :: .int a :: st) S cs sl = kk L st S cs sl := by rw [x_icmp_lt]; exact dec_f h
theorem b_icmp_ge_t {o : Int} {a b : Int32} (h : b ≤ a) : wp1 G Γ R K E kk (pc, .if_icmp .ge o, x, y, z, w) L (.int b :: .int a :: st) S cs sl = K z L st S cs sl := by rw [x_icmp_ge]; exact dec_t h
theorem b_icmp_ge_f {o : Int} {a b : Int32} (h : ¬ b ≤ a) : wp1 G Γ R K E kk (pc, .if_icmp .ge o, x, y, z, w) L (.int b :: .int a :: st) S cs sl = kk L st S cs sl := by rw [x_icmp_ge]; exact dec_f h
theorem b_icmp_gt_t {o : Int} {a b : Int32} (h : b < a) : wp1 G Γ R K E kk (pc, .if_icmp .gt o, x, y, z, w) L (.int b :: .int a :: st) S cs sl = K z L st S cs sl := by rw [x_icmp_gt]; exact dec_t h
theorem b_icmp_gt_f {o : Int} {a b : Int32} (h : ¬ b < a) : wp1 G Γ R K E kk (pc, .if_icmp .gt o, x, y, z, w) L (.int b :: .int a :: st) S cs sl = kk L st S cs sl := by rw [x_icmp_gt]; exact dec_f h
theorem b_icmp_le_t {o : Int} {a b : Int32} (h : a ≤ b) : wp1 G Γ R K E kk (pc, .if_icmp .le o, x, y, z, w) L (.int b :: .int a :: st) S cs sl = K z L st S cs sl := by rw [x_icmp_le]; exact dec_t h
theorem b_icmp_le_f {o : Int} {a b : Int32} (h : ¬ a ≤ b) : wp1 G Γ R K E kk (pc, .if_icmp .le o, x, y, z, w) L (.int b :: .int a :: st) S cs sl = kk L st S cs sl := by rw [x_icmp_le]; exact dec_f h
theorem b_if_eq_t {o : Int} {a : Int32} (h : a = 0) : wp1 G Γ R K E kk (pc, .ifCond .eq o, x, y, z, w) L (.int a :: st) S cs sl = K z L st S cs sl := by rw [x_if_eq]; exact dec_t h
theorem b_if_eq_f {o : Int} {a : Int32} (h : ¬ a = 0) : wp1 G Γ R K E kk (pc, .ifCond .eq o, x, y, z, w) L (.int a :: st) S cs sl = kk L st S cs sl := by rw [x_if_eq]; exact dec_f h
theorem b_if_ne_t {o : Int} {a : Int32} (h : ¬ a = 0) : wp1 G Γ R K E kk (pc, .ifCond .ne o, x, y, z, w) L (.int a :: st) S cs sl = K z L st S cs sl := by rw [x_if_ne]; exact dec_t h
theorem b_if_ne_f {o : Int} {a : Int32} (h : a = 0) : wp1 G Γ R K E kk (pc, .ifCond .ne o, x, y, z, w) L (.int a :: st) S cs sl = kk L st S cs sl := by rw [x_if_ne]; exact dec_f (fun n => n h)
theorem b_if_lt_t {o : Int} {a : Int32} (h : a < 0) : wp1 G Γ R K E kk (pc, .ifCond .lt o, x, y, z, w) L (.int a :: st) S cs sl = K z L st S cs sl := by rw [x_if_lt]; exact dec_t h
theorem b_if_lt_f {o : Int} {a : Int32} (h : ¬ a < 0) : wp1 G Γ R K E kk (pc, .ifCond .lt o, x, y, z, w) L (.int a :: st) S cs sl = kk L st S cs sl := by rw [x_if_lt]; exact dec_f h
theorem b_if_ge_t {o : Int} {a : Int32} (h : 0 ≤ a) : wp1 G Γ R K E kk (pc, .ifCond .ge o, x, y, z, w) L (.int a :: st) S cs sl = K z L st S cs sl := by rw [x_if_ge]; exact dec_t h
theorem b_if_ge_f {o : Int} {a : Int32} (h : ¬ 0 ≤ a) : wp1 G Γ R K E kk (pc, .ifCond .ge o, x, y, z, w) L (.int a :: st) S cs sl = kk L st S cs sl := by rw [x_if_ge]; exact dec_f h
theorem b_if_gt_t {o : Int} {a : Int32} (h : 0 < a) : wp1 G Γ R K E kk (pc, .ifCond .gt o, x, y, z, w) L (.int a :: st) S cs sl = K z L st S cs sl := by rw [x_if_gt]; exact dec_t h
theorem b_if_gt_f {o : Int} {a : Int32} (h : ¬ 0 < a) : wp1 G Γ R K E kk (pc, .ifCond .gt o, x, y, z, w) L (.int a :: st) S cs sl = kk L st S cs sl := by rw [x_if_gt]; exact dec_f h
theorem b_if_le_t {o : Int} {a : Int32} (h : a ≤ 0) : wp1 G Γ R K E kk (pc, .ifCond .le o, x, y, z, w) L (.int a :: st) S cs sl = K z L st S cs sl := by rw [x_if_le]; exact dec_t h
theorem b_if_le_f {o : Int} {a : Int32} (h : ¬ a ≤ 0) : wp1 G Γ R K E kk (pc, .ifCond .le o, x, y, z, w) L (.int a :: st) S cs sl = kk L st S cs sl := by rw [x_if_le]; exact dec_f h
end DB
