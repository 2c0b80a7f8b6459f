theorem fs_r (l : Launch) (d : mD) (E : mE) (hd : d.2.2.2.2 = false) : CM l d E 121 [.inr (.inl 0)] false hM (rX none hF) := by
  rcases all_ms 121 (by decide) with hz | hA
  · exact (bl_rc0 hz (n := 999999) fsP_9).elim
  obtain ⟨M, h0, -⟩ := id hA
  have hc : cOK l d E (ed [] rc nl 6) := ed_s fk_n 6
  have key := fr_m (as := [.inr (.inl 0)]) (hp := hM) (K := rX none hF) fk_n hA hc (fun {p e s m args below meth c} C => ?_) (by decide) (fun a ha => by rw [List.mem_singleton.mp ha]; rfl)
  · rw [hd] at key; exact key
  · rw [hd]
    have q9 := fr_s (e := e) (below := below) M C hc (fun b L S h hz => by cases hz) 1000000 10 _ _ _ fsP_9
    have q8 := fr_s (e := e) (below := below) M C hc (fun b L S h hz => by obtain ⟨rfl, rfl, rfl, rfl⟩ := zt_s hz; exact q9) 4703 10 _ _ _ fsP_8
    have q7 := fr_s (e := e) (below := below) M C hc (fun b L S h hz => by obtain ⟨rfl, rfl, rfl, rfl⟩ := zt_s hz; exact q8) 5428 10 _ _ _ fsP_7
    have q6 := fr_s (e := e) (below := below) M C hc (fun b L S h hz => by obtain ⟨rfl, rfl, rfl, rfl⟩ := zt_s hz; exact q7) 5844 12 _ _ _ fsP_6
    have q5 := fr_s (e := e) (below := below) M C hc (fun b L S h hz => by obtain ⟨rfl, rfl, rfl, rfl⟩ := zt_s hz; exact q6) 443 2 _ _ _ fsP_5
    have q4 := fr_s (e := e) (below := below) M C hc (fun b L S h hz => by obtain ⟨rfl, rfl, rfl, rfl⟩ := zt_s hz; exact q5) 31 2 _ _ _ fsP_4
    have q3 := fr_s (e := e) (below := below) M C hc (fun b L S h hz => by obtain ⟨rfl, rfl, rfl, rfl⟩ := zt_s hz; exact q4) 17 2 _ _ _ fsP_3
    have q2 := fr_s (e := e) (below := below) M C hc (fun b L S h hz => by obtain ⟨rfl, rfl, rfl, rfl⟩ := zt_s hz; exact q3) 5 2 _ _ _ fsP_2
    have q1 := fr_s (e := e) (below := below) M C hc (fun b L S h hz => by obtain ⟨rfl, rfl, rfl, rfl⟩ := zt_s hz; exact q2) 5 2 _ _ _ fsP_1
    have q0 := fr_s (e := e) (below := below) M C hc (fun b L S h hz => by obtain ⟨rfl, rfl, rfl, rfl⟩ := zt_s hz; exact q1) 7 0 _ _ _ fsP_0
    rw [h0] at q0
    exact q0
def tf : List mT := [(121, [.inr (.inl 0)], hM, none, hF)]
theorem tf_g (l : Launch) (d : mD) (E : mE) (hd : d.2.2.2.2 = false) : TG l d E tf := fun q hq => by rw [List.mem_singleton.mp hq]; exact fs_r l d E hd
theorem ar_shared_0 : chk [(10, .inr (.inr (.inr (.inl 0))), .inl 4294967295, .inl 0), (12, .inr (.inr (.inr (.inl 0))), .inl 0, .inl 1), (12, .inr (.inr (.inr (.inl 0))), .inl 4294967295, .inl 1)] 79 120 [.inr (.inr (.inr (.inl 0)))] 4294967295 = true := by decide +kernel
theorem ar_shared_1 : chk [(10, .inr (.inr (.inr (.inl 0))), .inl 4294967295, .inl 0), (12, .inr (.inr (.inr (.inl 0))), .inl 0, .inl 0), (13, .inr (.inr (.inr (.inl 0))), .inl 4, .inl 1), (12, .inr (.inr (.inr (.inl 0))), .inl 4294967295, .inl 0), (14, .inr (.inr (.inr (.inl 0))), .inl 3, .inl 1)] 79 120 [.inr (.inr (.inr (.inl 0)))] 4294967295 = true := by decide +kernel
theorem hc_shared_0 : ed [] rc nl 8 79 [.inr (.inl 0), .inl 4294967295] false hCX (rC 58) = true := by decide +kernel
theorem hm_shared_0 : em [] (mc (ed [] rc nl 7) tf) 120 [.inr (.inl 0), .inl 4294967295] false hM (rN 58) = true := by decide +kernel
theorem hc_shared_1 : ed [] rc nl 8 79 [.inr (.inl 0), .inl 0] false hCX (rC 8) = true := by decide +kernel
theorem hm_shared_1 : em [] (mc (ed [] rc nl 7) tf) 120 [.inr (.inl 0), .inl 0] false hM (rN 8) = true := by decide +kernel
theorem hc_shared_2 : ed [] rc nl 8 79 [.inr (.inl 0), .inl 1] false hCX (rC 0) = true := by decide +kernel
theorem hm_shared_2 : em [] (mc (ed [] rc nl 7) tf) 120 [.inr (.inl 0), .inl 1] false hM (rN 0) = true := by decide +kernel
theorem hc_shared_3 : ed [] rc nl 8 79 [.inr (.inl 0), .inl 2] false hCX (rC 1) = true := by decide +kernel
theorem hm_shared_3 : em [] (mc (ed [] rc nl 7) tf) 120 [.inr (.inl 0), .inl 2] false hM (rN 1) = true := by decide +kernel
theorem hc_shared_4 : ed [] rc nl 8 79 [.inr (.inl 0), .inl 3] false hCX (rC 4) = true := by decide +kernel
theorem hm_shared_4 : em [] (mc (ed [] rc nl 7) tf) 120 [.inr (.inl 0), .inl 3] false hM (rN 4) = true := by decide +kernel
theorem op_shared (a : Int32) : OP 79 120 [a] := by
  rcases (show a.toInt < -1 ∨ 3 < a.toInt ∨ (-1 ≤ a.toInt ∧ a.toInt < -1 + (5 : Nat)) by omega) with hx | hx | hx
  · exact op_of (sg := sg3 a 0 0) (tl := fun _ => 0) ar_shared_0 (fun d h1 _ => fk_0 (cc := 0) rfl (show _ = (-1 : Int) by decide) (by rw [h1]; show ¬ (a.toInt = (-1 : Int)); omega) (fk_1 (cc := 2) rfl (show _ = (0 : Int) by decide) (by rw [h1]; show a.toInt < (0 : Int); omega) (fk_1 (cc := 2) rfl (show _ = (-1 : Int) by decide) (by rw [h1]; show a.toInt < (-1 : Int); omega) (fk_n)))) (fun d h1 _ => (by show [Value.int (d.2.1 0)] = _; rw [h1]; rfl))
  · exact op_of (sg := sg3 a 0 0) (tl := fun _ => 0) ar_shared_1 (fun d h1 _ => fk_0 (cc := 0) rfl (show _ = (-1 : Int) by decide) (by rw [h1]; show ¬ (a.toInt = (-1 : Int)); omega) (fk_0 (cc := 2) rfl (show _ = (0 : Int) by decide) (by rw [h1]; show ¬ (a.toInt < (0 : Int)); omega) (fk_1 (cc := 3) rfl (show _ = (4 : Int) by decide) (by rw [h1]; show (4 : Int) ≤ a.toInt; omega) (fk_0 (cc := 2) rfl (show _ = (-1 : Int) by decide) (by rw [h1]; show ¬ (a.toInt < (-1 : Int)); omega) (fk_1 (cc := 4) rfl (show _ = (3 : Int) by decide) (by rw [h1]; show (3 : Int) < a.toInt; omega) (fk_n)))))) (fun d h1 _ => (by show [Value.int (d.2.1 0)] = _; rw [h1]; rfl))
  · obtain ⟨j, hj, rfl⟩ := pt1 5 (by decide) hx.1 hx.2
    rcases (show j = 0 ∨ j = 1 ∨ j = 2 ∨ j = 3 ∨ j = 4 by omega) with rfl | rfl | rfl | rfl | rfl
    · exact op_of2 (sg := sg3 0 0 0) (tl := fun _ => 0) (fun l d E e1 e2 e3 => ⟨ed_s fk_n 8 _ _ _ _ _ hc_shared_0, em_s fk_n (mc_s e3 (ed_s fk_n 7) (tf_g l d E e3)) _ _ _ _ _ hm_shared_0⟩) (fun d h1 _ => rfl)
    · exact op_of2 (sg := sg3 0 0 0) (tl := fun _ => 0) (fun l d E e1 e2 e3 => ⟨ed_s fk_n 8 _ _ _ _ _ hc_shared_1, em_s fk_n (mc_s e3 (ed_s fk_n 7) (tf_g l d E e3)) _ _ _ _ _ hm_shared_1⟩) (fun d h1 _ => rfl)
    · exact op_of2 (sg := sg3 0 0 0) (tl := fun _ => 0) (fun l d E e1 e2 e3 => ⟨ed_s fk_n 8 _ _ _ _ _ hc_shared_2, em_s fk_n (mc_s e3 (ed_s fk_n 7) (tf_g l d E e3)) _ _ _ _ _ hm_shared_2⟩) (fun d h1 _ => rfl)
    · exact op_of2 (sg := sg3 0 0 0) (tl := fun _ => 0) (fun l d E e1 e2 e3 => ⟨ed_s fk_n 8 _ _ _ _ _ hc_shared_3, em_s fk_n (mc_s e3 (ed_s fk_n 7) (tf_g l d E e3)) _ _ _ _ _ hm_shared_3⟩) (fun d h1 _ => rfl)
    · exact op_of2 (sg := sg3 0 0 0) (tl := fun _ => 0) (fun l d E e1 e2 e3 => ⟨ed_s fk_n 8 _ _ _ _ _ hc_shared_4, em_s fk_n (mc_s e3 (ed_s fk_n 7) (tf_g l d E e3)) _ _ _ _ _ hm_shared_4⟩) (fun d h1 _ => rfl)
