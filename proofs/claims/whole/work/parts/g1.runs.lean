/-! ===== the law's run: from its entry to its end ===== -/
section G1
variable {L : Nat} {xs : Nat → Int32} {XT : x_Xt} {O : Nat → List Value → x_T → x_Z} {B : Nat → x_L → x_T → x_Z} {T : x_T} {a : Nat}
theorem zB_n : zB2.1.length = 79 := by rw [z_B3]; rfl
theorem y_g1 : (x_okl zB2.1.length [some (.retAddr 2), some (.ref 0), none, none] && x_oks zB2.1.length [] && x_okT zB2.1.length zB2.1) = true := by rw [z_B3]; decide +kernel
theorem y_g2 {s : x_S} : (Nat.ble (x_sm [.ref zB2.1.length]) 8 && (x_okl (x_new zB2 s).1.length [some (.retAddr 2), some (.ref 0), none, none] && x_oks (x_new zB2 s).1.length [.ref zB2.1.length])) = true := by
  have e : (x_new zB2 s).1.length = 80 := by
    show (zB2.1 ++ [s]).length = 80
    rw [List.length_append, zB_n]; rfl
  rw [e, zB_n]; decide
set_option maxRecDepth 100000 in
theorem y_r1 : x_ev kE XT O B (kE.2.2.2 87) 700 (kE.2.2.2 87) [some (.retAddr 2), none, none, none] [] ([], fun _ _ => 0, fun _ _ => 0) = x_bd (O 185 [.ref 0] (x_new ([], fun _ _ => 0, fun _ _ => 0) (.inr (11, kE.1 11)))) (fun v T' => x_ev kE XT O B (kE.2.2.2 87) 697 ((kE.2.2.2 87).drop 3) [some (.retAddr 2), none, none, none] (v.toList ++ [.ref 0]) T') := rfl
set_option maxRecDepth 100000 in
theorem y_r2 : x_ev kE XT O B (kE.2.2.2 87) 697 ((kE.2.2.2 87).drop 3) [some (.retAddr 2), none, none, none] ((none : Option Value).toList ++ [.ref 0]) T = x_g (x_okl T.1.length [some (.retAddr 2), some (.ref 0), none, none] && x_oks T.1.length [] && x_okT T.1.length T.1) (x_ev kE XT O B (kE.2.2.2 87) 695 ((kE.2.2.2 87).drop 5) [some (.retAddr 2), some (.ref 0), none, none] [.ref T.1.length] (x_new T (.inr (0, kE.1 0)))) := rfl
set_option maxRecDepth 100000 in
theorem y_r3 : x_ev kE XT O B (kE.2.2.2 87) 695 ((kE.2.2.2 87).drop 5) [some (.retAddr 2), some (.ref 0), none, none] [.ref a] T = x_g (Nat.ble (x_sm [.ref a]) 8 && (x_okl T.1.length [some (.retAddr 2), some (.ref 0), none, none] && x_oks T.1.length [.ref a])) (x_bd (O 0 [.ref a] T) (fun v T' => x_ev kE XT O B (kE.2.2.2 87) 693 ((kE.2.2.2 87).drop 7) [some (.retAddr 2), some (.ref 0), none, none] (v.toList ++ [.ref a]) T')) := rfl
set_option maxRecDepth 100000 in
theorem y_r4 : x_ev kE XT O B (kE.2.2.2 87) 693 ((kE.2.2.2 87).drop 7) [some (.retAddr 2), some (.ref 0), none, none] ((none : Option Value).toList ++ [.ref 79]) T = x_ev kE XT O B (kE.2.2.2 87) 690 ((kE.2.2.2 87).drop 10) [some (.retAddr 2), some (.ref 0), some (.ref 79), some (.int 0)] [] T := rfl
theorem bd_some {v : Option Value} {K : Option Value → x_T → x_Z} : x_bd (some (v, T)) K = K v T := rfl
theorem g_true {z : x_Z} : x_g true z = z := rfl
theorem zB_q : x_P kE kSO 700 4000 60 185 [.ref 0] (x_new ([], fun _ _ => 0, fun _ _ => 0) (.inr (11, kE.1 11))) = some (none, zB2) := by
  have e := zB_p
  unfold zA at e
  exact e
theorem y_run0 : y_run kSO L xs = x_ev kE (y_scr L xs) (x_P kE kSO 700 4000 60) (x_lp kE (y_scr L xs) (x_P kE kSO 700 4000 60) (kE.2.2.2 87) 700 4000) (kE.2.2.2 87) 690 ((kE.2.2.2 87).drop 10) [some (.retAddr 2), some (.ref 0), some (.ref 79), some (.int 0)] [] zT := by
  unfold y_run
  rw [y_r1, zB_q, bd_some, y_r2, y_g1, g_true, y_r3, y_g2, g_true, zB_n, zC_p, bd_some, y_r4]
theorem kS_n : kS.length ≤ 600000 ∧ x_z kS ≤ 7302250 := by decide +kernel
theorem pe_60 : pe 60 = x_P kE kSO 700 4000 60 := by
  funext μ vs T
  unfold pe
  exact rfl
theorem y_run_ok (hL : L ≤ 3072) : ∃ Te : x_T, y_run kSO L xs = some (some (.int 1), Te) ∧ Te.1.length ≤ 600000 ∧ x_z Te.1 ≤ 7302250 := by
  obtain ⟨v, f, g, e, -, -, hv⟩ := lw_loop (xs := xs) hL f0_I f0_R
  rw [f0_T, pe_60] at e
  refine ⟨cT f g, ?_, kS_n.1, kS_n.2⟩
  rw [y_run0]
  subst hv
  exact e
end G1
