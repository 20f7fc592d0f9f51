/-! EVERY PAIR OF METHODS THAT TOUCHES THE RELATION -/
theorem u9_m {k j : Nat} (h : c9m k j) : uK k j := Or.inl h
theorem u9_t {k j : Nat} (h : c9t k j) : uK k j := Or.inr (Or.inl h)
theorem u9_d {k j : Nat} (h : c9d k j) : uK k j := Or.inr (Or.inr (Or.inl h))
theorem u9_p {k j : Nat} (h : c9p k j) : uK k j := Or.inr (Or.inr (Or.inr (Or.inl h)))
theorem u9_q {k j : Nat} (h : c9q k j) : uK k j := Or.inr (Or.inr (Or.inr (Or.inr (Or.inl h))))
theorem u9_T {k j : Nat} (h : c9T k j) : uK k j := Or.inr (Or.inr (Or.inr (Or.inr (Or.inr (Or.inl h)))))
theorem u9_F {k j : Nat} (h : c9F k j) : uK k j := Or.inr (Or.inr (Or.inr (Or.inr (Or.inr (Or.inr (Or.inl h))))))
theorem u9_I {k j : Nat} (h : c9I k j) : uK k j := Or.inr (Or.inr (Or.inr (Or.inr (Or.inr (Or.inr (Or.inr (Or.inl h)))))))
theorem u9_W {k j : Nat} (h : c9W k j) : uK k j := Or.inr (Or.inr (Or.inr (Or.inr (Or.inr (Or.inr (Or.inr (Or.inr h)))))))
theorem no553 {j : Nat} (h : uK 553 j) : False := by
  rcases h with z | z | z | z | z | z | z | z | z
  · unfold c9m at z; omega
  · unfold c9t at z; omega
  · unfold c9d at z; omega
  · unfold c9p at z; omega
  · unfold c9q at z; omega
  · unfold c9T at z; omega
  · unfold c9F at z; omega
  · unfold c9I at z; omega
  · unfold c9W at z; omega
theorem lt552 {j : Nat} (h : uK 552 j) : j < 19782 := by
  rcases h with z | z | z | z | z | z | z | z | z
  · unfold c9m at z; omega
  · unfold c9t at z; omega
  · unfold c9d at z; omega
  · unfold c9p at z; omega
  · unfold c9q at z; omega
  · unfold c9T at z; omega
  · unfold c9F at z; omega
  · unfold c9I at z; omega
  · unfold c9W at z; omega
def rc_m (k j : Nat) : Prop := k = 2 ∧ j = 0
def ry_m (k j : Nat) : Prop := k = 552 ∧ j = 0
def rc_t (k j : Nat) : Prop := k = 8 ∧ j = 2
def ry_t (k j : Nat) : Prop := k = 552 ∧ j = 7
def rc_d (k j : Nat) : Prop := k = 1 ∧ j = 11
def ry_d (k j : Nat) : Prop := k = 552 ∧ j = 6
def rc_T (k j : Nat) : Prop := (k = 541 ∧ j = 1) ∨ k = 542
def ry_T (k j : Nat) : Prop := (k = 551 ∧ j = 17) ∨ k = 561
def rc_e (k j : Nat) : Prop := k = 541 ∧ j = 1
def ry_e (k j : Nat) : Prop := k = 551 ∧ j = 17
def rc_p (k j : Nat) : Prop := (k = 541 ∧ (j = 1 ∨ j = 4 ∨ j = 5)) ∨ (k = 47 ∧ j = 2) ∨ (49 ≤ k ∧ k < 55) ∨ (k = 1 ∧ j = 10)
def rc_P (k j : Nat) : Prop := k = 541 ∧ (j = 1 ∨ j = 4 ∨ j = 5)
def ry_p (k j : Nat) : Prop := (k = 551 ∧ (j = 17 ∨ j = 25 ∨ j = 26 ∨ j = 27)) ∨ k = 563 ∨ (k = 552 ∧ j = 10)
def ry_P (k j : Nat) : Prop := (k = 551 ∧ (j = 25 ∨ j = 26)) ∨ k = 563
def ry_Q (k j : Nat) : Prop := (k = 551 ∧ (j = 17 ∨ j = 25 ∨ j = 26)) ∨ k = 563
def rc_r (k j : Nat) : Prop := (k = 8 ∧ j = 2) ∨ (k = 1 ∧ (j = 10 ∨ j = 11))
def ry_r (k j : Nat) : Prop := k = 552 ∧ (j = 6 ∨ j = 7 ∨ j = 10)
def rc_it (k j : Nat) : Prop := (181 ≤ k ∧ k < 361) ∨ (k = 0 ∧ j = 4)
def ry_it (k j : Nat) : Prop := k = 564 ∨ (k = 551 ∧ j = 29)
def rc_iu (k _ : Nat) : Prop := 1 ≤ k ∧ k < 181
def ry_iu (k j : Nat) : Prop := k = 552 ∨ k = 563 ∨ (k = 551 ∧ (j = 27 ∨ j = 29))
def ry_w (k _ : Nat) : Prop := k = 552
theorem f_F_rc_T {iv iv' : Iv} (h : SI (spU rc_T) iv iv') (w : RF iv) : RF iv' := rF_f (fun k j z => ag h (u9_F z) (by unfold c9F at z; unfold rc_T; omega)) w
theorem f_F_rc_d {iv iv' : Iv} (h : SI (spU rc_d) iv iv') (w : RF iv) : RF iv' := rF_f (fun k j z => ag h (u9_F z) (by unfold c9F at z; unfold rc_d; omega)) w
theorem f_F_rc_e {iv iv' : Iv} (h : SI (spU rc_e) iv iv') (w : RF iv) : RF iv' := rF_f (fun k j z => ag h (u9_F z) (by unfold c9F at z; unfold rc_e; omega)) w
theorem f_F_rc_m {iv iv' : Iv} (h : SI (spU rc_m) iv iv') (w : RF iv) : RF iv' := rF_f (fun k j z => ag h (u9_F z) (by unfold c9F at z; unfold rc_m; omega)) w
theorem f_F_rc_t {iv iv' : Iv} (h : SI (spU rc_t) iv iv') (w : RF iv) : RF iv' := rF_f (fun k j z => ag h (u9_F z) (by unfold c9F at z; unfold rc_t; omega)) w
theorem f_F_ry_T {iv iv' : Iv} (h : SI (spU ry_T) iv iv') (w : RF iv) : RF iv' := rF_f (fun k j z => ag h (u9_F z) (by unfold c9F at z; unfold ry_T; omega)) w
theorem f_F_ry_d {iv iv' : Iv} (h : SI (spU ry_d) iv iv') (w : RF iv) : RF iv' := rF_f (fun k j z => ag h (u9_F z) (by unfold c9F at z; unfold ry_d; omega)) w
theorem f_F_ry_e {iv iv' : Iv} (h : SI (spU ry_e) iv iv') (w : RF iv) : RF iv' := rF_f (fun k j z => ag h (u9_F z) (by unfold c9F at z; unfold ry_e; omega)) w
theorem f_F_ry_m {iv iv' : Iv} (h : SI (spU ry_m) iv iv') (w : RF iv) : RF iv' := rF_f (fun k j z => ag h (u9_F z) (by unfold c9F at z; unfold ry_m; omega)) w
theorem f_F_ry_t {iv iv' : Iv} (h : SI (spU ry_t) iv iv') (w : RF iv) : RF iv' := rF_f (fun k j z => ag h (u9_F z) (by unfold c9F at z; unfold ry_t; omega)) w
theorem f_I_rc_T {iv iv' : Iv} (h : SI (spU rc_T) iv iv') (w : RI iv) : RI iv' := rI_f (fun k j z => ag h (u9_I z) (by unfold c9I at z; unfold rc_T; omega)) w
theorem f_I_rc_d {iv iv' : Iv} (h : SI (spU rc_d) iv iv') (w : RI iv) : RI iv' := rI_f (fun k j z => ag h (u9_I z) (by unfold c9I at z; unfold rc_d; omega)) w
theorem f_I_rc_e {iv iv' : Iv} (h : SI (spU rc_e) iv iv') (w : RI iv) : RI iv' := rI_f (fun k j z => ag h (u9_I z) (by unfold c9I at z; unfold rc_e; omega)) w
theorem f_I_rc_m {iv iv' : Iv} (h : SI (spU rc_m) iv iv') (w : RI iv) : RI iv' := rI_f (fun k j z => ag h (u9_I z) (by unfold c9I at z; unfold rc_m; omega)) w
theorem f_I_rc_t {iv iv' : Iv} (h : SI (spU rc_t) iv iv') (w : RI iv) : RI iv' := rI_f (fun k j z => ag h (u9_I z) (by unfold c9I at z; unfold rc_t; omega)) w
theorem f_I_ry_T {iv iv' : Iv} (h : SI (spU ry_T) iv iv') (w : RI iv) : RI iv' := rI_f (fun k j z => ag h (u9_I z) (by unfold c9I at z; unfold ry_T; omega)) w
theorem f_I_ry_d {iv iv' : Iv} (h : SI (spU ry_d) iv iv') (w : RI iv) : RI iv' := rI_f (fun k j z => ag h (u9_I z) (by unfold c9I at z; unfold ry_d; omega)) w
theorem f_I_ry_e {iv iv' : Iv} (h : SI (spU ry_e) iv iv') (w : RI iv) : RI iv' := rI_f (fun k j z => ag h (u9_I z) (by unfold c9I at z; unfold ry_e; omega)) w
theorem f_I_ry_m {iv iv' : Iv} (h : SI (spU ry_m) iv iv') (w : RI iv) : RI iv' := rI_f (fun k j z => ag h (u9_I z) (by unfold c9I at z; unfold ry_m; omega)) w
theorem f_I_ry_t {iv iv' : Iv} (h : SI (spU ry_t) iv iv') (w : RI iv) : RI iv' := rI_f (fun k j z => ag h (u9_I z) (by unfold c9I at z; unfold ry_t; omega)) w
theorem f_T_rc_d {iv iv' : Iv} (h : SI (spU rc_d) iv iv') (w : RT iv) : RT iv' := rT_f (fun k j z => ag h (u9_T z) (by unfold c9T at z; unfold rc_d; omega)) w
theorem f_T_rc_m {iv iv' : Iv} (h : SI (spU rc_m) iv iv') (w : RT iv) : RT iv' := rT_f (fun k j z => ag h (u9_T z) (by unfold c9T at z; unfold rc_m; omega)) w
theorem f_T_rc_t {iv iv' : Iv} (h : SI (spU rc_t) iv iv') (w : RT iv) : RT iv' := rT_f (fun k j z => ag h (u9_T z) (by unfold c9T at z; unfold rc_t; omega)) w
theorem f_T_ry_d {iv iv' : Iv} (h : SI (spU ry_d) iv iv') (w : RT iv) : RT iv' := rT_f (fun k j z => ag h (u9_T z) (by unfold c9T at z; unfold ry_d; omega)) w
theorem f_T_ry_m {iv iv' : Iv} (h : SI (spU ry_m) iv iv') (w : RT iv) : RT iv' := rT_f (fun k j z => ag h (u9_T z) (by unfold c9T at z; unfold ry_m; omega)) w
theorem f_T_ry_t {iv iv' : Iv} (h : SI (spU ry_t) iv iv') (w : RT iv) : RT iv' := rT_f (fun k j z => ag h (u9_T z) (by unfold c9T at z; unfold ry_t; omega)) w
theorem f_W_rc_T {iv iv' : Iv} (h : SI (spU rc_T) iv iv') (w : RW iv) : RW iv' := rW_f (fun k j z => ag h (u9_W z) (by unfold c9W at z; unfold rc_T; omega)) w
theorem f_W_rc_d {iv iv' : Iv} (h : SI (spU rc_d) iv iv') (w : RW iv) : RW iv' := rW_f (fun k j z => ag h (u9_W z) (by unfold c9W at z; unfold rc_d; omega)) w
theorem f_W_rc_e {iv iv' : Iv} (h : SI (spU rc_e) iv iv') (w : RW iv) : RW iv' := rW_f (fun k j z => ag h (u9_W z) (by unfold c9W at z; unfold rc_e; omega)) w
theorem f_W_rc_m {iv iv' : Iv} (h : SI (spU rc_m) iv iv') (w : RW iv) : RW iv' := rW_f (fun k j z => ag h (u9_W z) (by unfold c9W at z; unfold rc_m; omega)) w
theorem f_W_rc_t {iv iv' : Iv} (h : SI (spU rc_t) iv iv') (w : RW iv) : RW iv' := rW_f (fun k j z => ag h (u9_W z) (by unfold c9W at z; unfold rc_t; omega)) w
theorem f_W_ry_T {iv iv' : Iv} (h : SI (spU ry_T) iv iv') (w : RW iv) : RW iv' := rW_f (fun k j z => ag h (u9_W z) (by unfold c9W at z; unfold ry_T; omega)) w
theorem f_W_ry_d {iv iv' : Iv} (h : SI (spU ry_d) iv iv') (w : RW iv) : RW iv' := rW_f (fun k j z => ag h (u9_W z) (by unfold c9W at z; unfold ry_d; omega)) w
theorem f_W_ry_e {iv iv' : Iv} (h : SI (spU ry_e) iv iv') (w : RW iv) : RW iv' := rW_f (fun k j z => ag h (u9_W z) (by unfold c9W at z; unfold ry_e; omega)) w
theorem f_W_ry_m {iv iv' : Iv} (h : SI (spU ry_m) iv iv') (w : RW iv) : RW iv' := rW_f (fun k j z => ag h (u9_W z) (by unfold c9W at z; unfold ry_m; omega)) w
theorem f_W_ry_t {iv iv' : Iv} (h : SI (spU ry_t) iv iv') (w : RW iv) : RW iv' := rW_f (fun k j z => ag h (u9_W z) (by unfold c9W at z; unfold ry_t; omega)) w
theorem f_d_rc_T {iv iv' : Iv} (h : SI (spU rc_T) iv iv') (w : Rd iv) : Rd iv' := rd_f (fun k j z => ag h (u9_d z) (by unfold c9d at z; unfold rc_T; omega)) w
theorem f_d_rc_e {iv iv' : Iv} (h : SI (spU rc_e) iv iv') (w : Rd iv) : Rd iv' := rd_f (fun k j z => ag h (u9_d z) (by unfold c9d at z; unfold rc_e; omega)) w
theorem f_d_rc_m {iv iv' : Iv} (h : SI (spU rc_m) iv iv') (w : Rd iv) : Rd iv' := rd_f (fun k j z => ag h (u9_d z) (by unfold c9d at z; unfold rc_m; omega)) w
theorem f_d_rc_t {iv iv' : Iv} (h : SI (spU rc_t) iv iv') (w : Rd iv) : Rd iv' := rd_f (fun k j z => ag h (u9_d z) (by unfold c9d at z; unfold rc_t; omega)) w
theorem f_d_ry_T {iv iv' : Iv} (h : SI (spU ry_T) iv iv') (w : Rd iv) : Rd iv' := rd_f (fun k j z => ag h (u9_d z) (by unfold c9d at z; unfold ry_T; omega)) w
theorem f_d_ry_e {iv iv' : Iv} (h : SI (spU ry_e) iv iv') (w : Rd iv) : Rd iv' := rd_f (fun k j z => ag h (u9_d z) (by unfold c9d at z; unfold ry_e; omega)) w
theorem f_d_ry_m {iv iv' : Iv} (h : SI (spU ry_m) iv iv') (w : Rd iv) : Rd iv' := rd_f (fun k j z => ag h (u9_d z) (by unfold c9d at z; unfold ry_m; omega)) w
theorem f_d_ry_t {iv iv' : Iv} (h : SI (spU ry_t) iv iv') (w : Rd iv) : Rd iv' := rd_f (fun k j z => ag h (u9_d z) (by unfold c9d at z; unfold ry_t; omega)) w
theorem f_m_rc_T {iv iv' : Iv} (h : SI (spU rc_T) iv iv') (w : Rm iv) : Rm iv' := rm_f (fun k j z => ag h (u9_m z) (by unfold c9m at z; unfold rc_T; omega)) w
theorem f_m_rc_d {iv iv' : Iv} (h : SI (spU rc_d) iv iv') (w : Rm iv) : Rm iv' := rm_f (fun k j z => ag h (u9_m z) (by unfold c9m at z; unfold rc_d; omega)) w
theorem f_m_rc_e {iv iv' : Iv} (h : SI (spU rc_e) iv iv') (w : Rm iv) : Rm iv' := rm_f (fun k j z => ag h (u9_m z) (by unfold c9m at z; unfold rc_e; omega)) w
theorem f_m_rc_t {iv iv' : Iv} (h : SI (spU rc_t) iv iv') (w : Rm iv) : Rm iv' := rm_f (fun k j z => ag h (u9_m z) (by unfold c9m at z; unfold rc_t; omega)) w
theorem f_m_ry_T {iv iv' : Iv} (h : SI (spU ry_T) iv iv') (w : Rm iv) : Rm iv' := rm_f (fun k j z => ag h (u9_m z) (by unfold c9m at z; unfold ry_T; omega)) w
theorem f_m_ry_d {iv iv' : Iv} (h : SI (spU ry_d) iv iv') (w : Rm iv) : Rm iv' := rm_f (fun k j z => ag h (u9_m z) (by unfold c9m at z; unfold ry_d; omega)) w
theorem f_m_ry_e {iv iv' : Iv} (h : SI (spU ry_e) iv iv') (w : Rm iv) : Rm iv' := rm_f (fun k j z => ag h (u9_m z) (by unfold c9m at z; unfold ry_e; omega)) w
theorem f_m_ry_t {iv iv' : Iv} (h : SI (spU ry_t) iv iv') (w : Rm iv) : Rm iv' := rm_f (fun k j z => ag h (u9_m z) (by unfold c9m at z; unfold ry_t; omega)) w
theorem f_p_rc_T {iv iv' : Iv} (h : SI (spU rc_T) iv iv') (w : Rp iv) : Rp iv' := rp_f (fun k j z => ag h (u9_p z) (by unfold c9p at z; unfold rc_T; omega)) w
theorem f_p_rc_d {iv iv' : Iv} (h : SI (spU rc_d) iv iv') (w : Rp iv) : Rp iv' := rp_f (fun k j z => ag h (u9_p z) (by unfold c9p at z; unfold rc_d; omega)) w
theorem f_p_rc_e {iv iv' : Iv} (h : SI (spU rc_e) iv iv') (w : Rp iv) : Rp iv' := rp_f (fun k j z => ag h (u9_p z) (by unfold c9p at z; unfold rc_e; omega)) w
theorem f_p_rc_m {iv iv' : Iv} (h : SI (spU rc_m) iv iv') (w : Rp iv) : Rp iv' := rp_f (fun k j z => ag h (u9_p z) (by unfold c9p at z; unfold rc_m; omega)) w
theorem f_p_rc_t {iv iv' : Iv} (h : SI (spU rc_t) iv iv') (w : Rp iv) : Rp iv' := rp_f (fun k j z => ag h (u9_p z) (by unfold c9p at z; unfold rc_t; omega)) w
theorem f_p_ry_T {iv iv' : Iv} (h : SI (spU ry_T) iv iv') (w : Rp iv) : Rp iv' := rp_f (fun k j z => ag h (u9_p z) (by unfold c9p at z; unfold ry_T; omega)) w
theorem f_p_ry_d {iv iv' : Iv} (h : SI (spU ry_d) iv iv') (w : Rp iv) : Rp iv' := rp_f (fun k j z => ag h (u9_p z) (by unfold c9p at z; unfold ry_d; omega)) w
theorem f_p_ry_e {iv iv' : Iv} (h : SI (spU ry_e) iv iv') (w : Rp iv) : Rp iv' := rp_f (fun k j z => ag h (u9_p z) (by unfold c9p at z; unfold ry_e; omega)) w
theorem f_p_ry_m {iv iv' : Iv} (h : SI (spU ry_m) iv iv') (w : Rp iv) : Rp iv' := rp_f (fun k j z => ag h (u9_p z) (by unfold c9p at z; unfold ry_m; omega)) w
theorem f_p_ry_t {iv iv' : Iv} (h : SI (spU ry_t) iv iv') (w : Rp iv) : Rp iv' := rp_f (fun k j z => ag h (u9_p z) (by unfold c9p at z; unfold ry_t; omega)) w
theorem f_q_rc_T {iv iv' : Iv} (h : SI (spU rc_T) iv iv') (w : Rq iv) : Rq iv' := rq_f (fun k j z => ag h (u9_q z) (by unfold c9q at z; unfold rc_T; omega)) w
theorem f_q_rc_d {iv iv' : Iv} (h : SI (spU rc_d) iv iv') (w : Rq iv) : Rq iv' := rq_f (fun k j z => ag h (u9_q z) (by unfold c9q at z; unfold rc_d; omega)) w
theorem f_q_rc_e {iv iv' : Iv} (h : SI (spU rc_e) iv iv') (w : Rq iv) : Rq iv' := rq_f (fun k j z => ag h (u9_q z) (by unfold c9q at z; unfold rc_e; omega)) w
theorem f_q_rc_m {iv iv' : Iv} (h : SI (spU rc_m) iv iv') (w : Rq iv) : Rq iv' := rq_f (fun k j z => ag h (u9_q z) (by unfold c9q at z; unfold rc_m; omega)) w
theorem f_q_rc_t {iv iv' : Iv} (h : SI (spU rc_t) iv iv') (w : Rq iv) : Rq iv' := rq_f (fun k j z => ag h (u9_q z) (by unfold c9q at z; unfold rc_t; omega)) w
theorem f_q_ry_T {iv iv' : Iv} (h : SI (spU ry_T) iv iv') (w : Rq iv) : Rq iv' := rq_f (fun k j z => ag h (u9_q z) (by unfold c9q at z; unfold ry_T; omega)) w
theorem f_q_ry_d {iv iv' : Iv} (h : SI (spU ry_d) iv iv') (w : Rq iv) : Rq iv' := rq_f (fun k j z => ag h (u9_q z) (by unfold c9q at z; unfold ry_d; omega)) w
theorem f_q_ry_e {iv iv' : Iv} (h : SI (spU ry_e) iv iv') (w : Rq iv) : Rq iv' := rq_f (fun k j z => ag h (u9_q z) (by unfold c9q at z; unfold ry_e; omega)) w
theorem f_q_ry_m {iv iv' : Iv} (h : SI (spU ry_m) iv iv') (w : Rq iv) : Rq iv' := rq_f (fun k j z => ag h (u9_q z) (by unfold c9q at z; unfold ry_m; omega)) w
theorem f_q_ry_t {iv iv' : Iv} (h : SI (spU ry_t) iv iv') (w : Rq iv) : Rq iv' := rq_f (fun k j z => ag h (u9_q z) (by unfold c9q at z; unfold ry_t; omega)) w
theorem f_t_rc_T {iv iv' : Iv} (h : SI (spU rc_T) iv iv') (w : Rt iv) : Rt iv' := rt_f (fun k j z => ag h (u9_t z) (by unfold c9t at z; unfold rc_T; omega)) w
theorem f_t_rc_d {iv iv' : Iv} (h : SI (spU rc_d) iv iv') (w : Rt iv) : Rt iv' := rt_f (fun k j z => ag h (u9_t z) (by unfold c9t at z; unfold rc_d; omega)) w
theorem f_t_rc_e {iv iv' : Iv} (h : SI (spU rc_e) iv iv') (w : Rt iv) : Rt iv' := rt_f (fun k j z => ag h (u9_t z) (by unfold c9t at z; unfold rc_e; omega)) w
theorem f_t_rc_m {iv iv' : Iv} (h : SI (spU rc_m) iv iv') (w : Rt iv) : Rt iv' := rt_f (fun k j z => ag h (u9_t z) (by unfold c9t at z; unfold rc_m; omega)) w
theorem f_t_ry_T {iv iv' : Iv} (h : SI (spU ry_T) iv iv') (w : Rt iv) : Rt iv' := rt_f (fun k j z => ag h (u9_t z) (by unfold c9t at z; unfold ry_T; omega)) w
theorem f_t_ry_d {iv iv' : Iv} (h : SI (spU ry_d) iv iv') (w : Rt iv) : Rt iv' := rt_f (fun k j z => ag h (u9_t z) (by unfold c9t at z; unfold ry_d; omega)) w
theorem f_t_ry_e {iv iv' : Iv} (h : SI (spU ry_e) iv iv') (w : Rt iv) : Rt iv' := rt_f (fun k j z => ag h (u9_t z) (by unfold c9t at z; unfold ry_e; omega)) w
theorem f_t_ry_m {iv iv' : Iv} (h : SI (spU ry_m) iv iv') (w : Rt iv) : Rt iv' := rt_f (fun k j z => ag h (u9_t z) (by unfold c9t at z; unfold ry_m; omega)) w
