/-! MatroidDesk$Matroid.takeParts(LMatroidDesk$Matroid;IIIZ)V -/
def w259_L131 (K12 : Int32 → Int32 → Int32 → Int32 → (Option Nat) → (Option Nat) → Int32 → Int32 → Nat → Nat → Int32 → (Nat → Int32) → (Nat → Int32) → (Nat → px_MR) → Nat → (Nat → Nat) → (Nat → px_PR) → Nat → Nat → Prop) (a0x : Nat) (cm : Nat) (ns : Nat) (sa : Nat → Nat) (ss : Nat → px_SR) (a1x : Nat) (mc : Nat) (ms : Nat) (post : Nat → Nat → Int32 → (Nat → Int32) → (Nat → Int32) → (Nat → px_MR) → Nat → (Nat → Nat) → (Nat → px_PR) → Prop) (x2 : Int32) (x3 : Int32) (x4 : Int32) (x5 : Int32) (x6 : (Option Nat)) (x7 : (Option Nat)) (x8 : Int32) (x9 : Int32) (q_o : Nat) (l_o : Nat) (o_reached : Int32) (g_o : Nat → Int32) (g_t : Nat → Int32) (mm : Nat → px_MR) (np : Nat) (pa : Nat → Nat) (pp : Nat → px_PR) (kc : Nat) (ks : Nat) : Prop := (x6 = none → (x7 = none → ∀ z3 : Int32, z3 = x9 + 1 → K12 x2 x3 x4 x5 none none x8 z3 q_o l_o o_reached g_o g_t mm np pa pp kc ks) ∧ (∀ a131_2 : Nat, x7 = some a131_2 → ∀ z4 : Int32, z4 = x9 + 1 → K12 x2 x3 x4 x5 none (some a131_2) x8 z4 q_o l_o o_reached g_o g_t mm np pa pp kc ks)) ∧ (∀ a131_1 : Nat, x6 = some a131_1 → (x7 = none → ∀ z6 : Int32, z6 = x9 + 1 → K12 x2 x3 x4 x5 (some a131_1) none x8 z6 q_o l_o o_reached g_o g_t mm np pa pp kc ks) ∧ (∀ a131_5 : Nat, x7 = some a131_5 → ∀ z7 : Int32, z7 = x9 + 1 → K12 x2 x3 x4 x5 (some a131_1) (some a131_5) x8 z7 q_o l_o o_reached g_o g_t mm np pa pp kc ks))
def w259_L105 (K12 : Int32 → Int32 → Int32 → Int32 → (Option Nat) → (Option Nat) → Int32 → Int32 → Nat → Nat → Int32 → (Nat → Int32) → (Nat → Int32) → (Nat → px_MR) → Nat → (Nat → Nat) → (Nat → px_PR) → Nat → Nat → Prop) (a0x : Nat) (cm : Nat) (ns : Nat) (sa : Nat → Nat) (ss : Nat → px_SR) (a1x : Nat) (mc : Nat) (ms : Nat) (post : Nat → Nat → Int32 → (Nat → Int32) → (Nat → Int32) → (Nat → px_MR) → Nat → (Nat → Nat) → (Nat → px_PR) → Prop) (x2 : Int32) (x3 : Int32) (x4 : Int32) (x5 : Int32) (x6 : (Option Nat)) (x7 : (Option Nat)) (x8 : Int32) (x9 : Int32) (q_o : Nat) (l_o : Nat) (o_reached : Int32) (g_o : Nat → Int32) (g_t : Nat → Int32) (mm : Nat → px_MR) (np : Nat) (pa : Nat → Nat) (pp : Nat → px_PR) (kc : Nat) (ks : Nat) : Prop := (x6 = none → (x7 = none → a0x < cm ∧ (a0x < cm ∧ (vp_in x8 12 ∧ ((∀ mm10 : Nat → px_MR, mm10 = va_up mm a0x ((mm a0x).1, (mm a0x).2.1, (mm a0x).2.2.1, (mm a0x).2.2.2.1, (mm a0x).2.2.2.2.1, va_up (mm a0x).2.2.2.2.2 (Int32.toNatClampNeg x8) none) → (a0x < cm ∧ (a1x < cm ∧ (a1x < cm ∧ (vp_in x9 (12) ∧ (∀ z11 : Int32, z11 = ((mm10 a1x).2.2.2.1 2) (Int32.toNatClampNeg x9) → a0x < cm ∧ (vp_in x8 (12) ∧ (∀ mm12 : Nat → px_MR, mm12 = va_up mm10 a0x ((mm10 a0x).1, (mm10 a0x).2.1, (mm10 a0x).2.2.1, va_up (mm10 a0x).2.2.2.1 2 (upd ((mm10 a0x).2.2.2.1 2) (Int32.toNatClampNeg x8) z11), (mm10 a0x).2.2.2.2) → (∀ z13 : Int32, z13 = x8 + 1 → w259_L131 K12 a0x cm ns sa ss a1x mc ms post x2 x3 x4 x5 none none z13 x9 q_o l_o o_reached g_o g_t mm12 np pa pp kc ks))))))))))))) ∧ (∀ a105_9 : Nat, x7 = some a105_9 → a0x < cm ∧ (a0x < cm ∧ (vp_in x8 12 ∧ (a105_9 < np ∧ (∀ mm14 : Nat → px_MR, mm14 = va_up mm a0x ((mm a0x).1, (mm a0x).2.1, (mm a0x).2.2.1, (mm a0x).2.2.2.1, (mm a0x).2.2.2.2.1, va_up (mm a0x).2.2.2.2.2 (Int32.toNatClampNeg x8) (some a105_9)) → (a0x < cm ∧ (a1x < cm ∧ (a1x < cm ∧ (vp_in x9 (12) ∧ (∀ z15 : Int32, z15 = ((mm14 a1x).2.2.2.1 2) (Int32.toNatClampNeg x9) → a0x < cm ∧ (vp_in x8 (12) ∧ (∀ mm16 : Nat → px_MR, mm16 = va_up mm14 a0x ((mm14 a0x).1, (mm14 a0x).2.1, (mm14 a0x).2.2.1, va_up (mm14 a0x).2.2.2.1 2 (upd ((mm14 a0x).2.2.2.1 2) (Int32.toNatClampNeg x8) z15), (mm14 a0x).2.2.2.2) → (∀ z17 : Int32, z17 = x8 + 1 → w259_L131 K12 a0x cm ns sa ss a1x mc ms post x2 x3 x4 x5 none (some a105_9) z17 x9 q_o l_o o_reached g_o g_t mm16 np pa pp kc ks)))))))))))))) ∧ (∀ a105_8 : Nat, x6 = some a105_8 → (x7 = none → a0x < cm ∧ (a0x < cm ∧ (vp_in x8 12 ∧ ((∀ mm19 : Nat → px_MR, mm19 = va_up mm a0x ((mm a0x).1, (mm a0x).2.1, (mm a0x).2.2.1, (mm a0x).2.2.2.1, (mm a0x).2.2.2.2.1, va_up (mm a0x).2.2.2.2.2 (Int32.toNatClampNeg x8) none) → (a0x < cm ∧ (a1x < cm ∧ (a1x < cm ∧ (vp_in x9 (12) ∧ (∀ z20 : Int32, z20 = ((mm19 a1x).2.2.2.1 2) (Int32.toNatClampNeg x9) → a0x < cm ∧ (vp_in x8 (12) ∧ (∀ mm21 : Nat → px_MR, mm21 = va_up mm19 a0x ((mm19 a0x).1, (mm19 a0x).2.1, (mm19 a0x).2.2.1, va_up (mm19 a0x).2.2.2.1 2 (upd ((mm19 a0x).2.2.2.1 2) (Int32.toNatClampNeg x8) z20), (mm19 a0x).2.2.2.2) → (∀ z22 : Int32, z22 = x8 + 1 → w259_L131 K12 a0x cm ns sa ss a1x mc ms post x2 x3 x4 x5 (some a105_8) none z22 x9 q_o l_o o_reached g_o g_t mm21 np pa pp kc ks))))))))))))) ∧ (∀ a105_18 : Nat, x7 = some a105_18 → a0x < cm ∧ (a0x < cm ∧ (vp_in x8 12 ∧ (a105_18 < np ∧ (∀ mm23 : Nat → px_MR, mm23 = va_up mm a0x ((mm a0x).1, (mm a0x).2.1, (mm a0x).2.2.1, (mm a0x).2.2.2.1, (mm a0x).2.2.2.2.1, va_up (mm a0x).2.2.2.2.2 (Int32.toNatClampNeg x8) (some a105_18)) → (a0x < cm ∧ (a1x < cm ∧ (a1x < cm ∧ (vp_in x9 (12) ∧ (∀ z24 : Int32, z24 = ((mm23 a1x).2.2.2.1 2) (Int32.toNatClampNeg x9) → a0x < cm ∧ (vp_in x8 (12) ∧ (∀ mm25 : Nat → px_MR, mm25 = va_up mm23 a0x ((mm23 a0x).1, (mm23 a0x).2.1, (mm23 a0x).2.2.1, va_up (mm23 a0x).2.2.2.1 2 (upd ((mm23 a0x).2.2.2.1 2) (Int32.toNatClampNeg x8) z24), (mm23 a0x).2.2.2.2) → (∀ z26 : Int32, z26 = x8 + 1 → w259_L131 K12 a0x cm ns sa ss a1x mc ms post x2 x3 x4 x5 (some a105_8) (some a105_18) z26 x9 q_o l_o o_reached g_o g_t mm25 np pa pp kc ks))))))))))))))
def w259_L12 (a0x : Nat) (cm : Nat) (ns : Nat) (sa : Nat → Nat) (ss : Nat → px_SR) (a1x : Nat) (mc : Nat) (ms : Nat) (post : Nat → Nat → Int32 → (Nat → Int32) → (Nat → Int32) → (Nat → px_MR) → Nat → (Nat → Nat) → (Nat → px_PR) → Prop) : Nat → Int32 → Int32 → Int32 → Int32 → (Option Nat) → (Option Nat) → Int32 → Int32 → Nat → Nat → Int32 → (Nat → Int32) → (Nat → Int32) → (Nat → px_MR) → Nat → (Nat → Nat) → (Nat → px_PR) → Nat → Nat → Prop
  | 0 => fun _ _ _ _ _ _ _ _ _ _ _ _ _ _ _ _ _ _ _ => False
  | k + 1 => fun x2 x3 x4 x5 x6 x7 x8 x9 q_o l_o o_reached g_o g_t mm np pa pp kc ks => (x6 = none → (x7 = none → a1x < cm ∧ ((((mm a1x).2.1 13) ≤ x9 → post q_o l_o o_reached g_o g_t mm np pa pp) ∧ (¬ ((mm a1x).2.1 13) ≤ x9 → (¬ ((x3 >>> (x9 &&& 31)) &&& 1) = 0 → w259_L131 (w259_L12 a0x cm ns sa ss a1x mc ms post k) a0x cm ns sa ss a1x mc ms post x2 x3 x4 x5 none none x8 x9 q_o l_o o_reached g_o g_t mm np pa pp kc ks) ∧ (((x3 >>> (x9 &&& 31)) &&& 1) = 0 → a1x < cm ∧ (a1x < cm ∧ (vp_in x9 12 ∧ (((mm a1x).2.2.2.2.2 (Int32.toNatClampNeg x9) = none → w259_L105 (w259_L12 a0x cm ns sa ss a1x mc ms post k) a0x cm ns sa ss a1x mc ms post x2 x3 x4 x5 none none x8 x9 q_o l_o o_reached g_o g_t mm np pa pp kc ks) ∧ (∀ k37_29 : Nat, (mm a1x).2.2.2.2.2 (Int32.toNatClampNeg x9) = some k37_29 → a1x < cm ∧ (a1x < cm ∧ (vp_in x9 12 ∧ (((mm a1x).2.2.2.2.2 (Int32.toNatClampNeg x9) = none → w259_L105 (w259_L12 a0x cm ns sa ss a1x mc ms post k) a0x cm ns sa ss a1x mc ms post x2 x3 x4 x5 none none x8 x9 q_o l_o o_reached g_o g_t mm np pa pp kc ks) ∧ (∀ k47_30 : Nat, (mm a1x).2.2.2.2.2 (Int32.toNatClampNeg x9) = some k47_30 → a1x < cm ∧ (a1x < cm ∧ (vp_in x9 12 ∧ (((mm a1x).2.2.2.2.2 (Int32.toNatClampNeg x9) = none → kc + 1 ≤ mc ∧ ks + 3 ≤ ms ∧ (∀ q61_32 : Nat, (False))) ∧ (∀ k59_31 : Nat, (mm a1x).2.2.2.2.2 (Int32.toNatClampNeg x9) = some k59_31 → kc + 1 ≤ mc ∧ ks + 3 ≤ ms ∧ (∀ q61_33 : Nat, (k59_31 < np ∧ (k59_31 < np ∧ (a1x < cm ∧ (w260_wp a1x cm np ns pa sa pp ss k59_31 (fun r81 v34 v35 v36 v37 v38 v39 => k59_31 < np ∧ ((((pp k59_31).2.2) = x5 → (w248_wp (sa (pp k59_31).1) (fun v41 v42 v43 => v41 = some (sa ((pp k59_31).1)) ∧ px_pok cm np v39 ∧ (∀ (pa45 : Nat → Nat) (pp45 : Nat → px_PR), pa45 = va_up pa np q61_33 → pp45 = va_up pp np ((pp k59_31).1, v42, v43) → (k59_31 < np ∧ w259_L105 (w259_L12 a0x cm ns sa ss a1x mc ms post k) a0x cm ns sa ss a1x mc ms post x2 x3 x4 x5 (some k59_31) (some np) x8 x9 v34 v35 v36 v37 v38 v39 (np + 1) pa45 pp45 (kc + 1) (ks + 3)))) (((pp k59_31).2.1) ||| r81) 0 none 0 0)) ∧ (¬ ((pp k59_31).2.2) = x5 → (w248_wp (sa (pp k59_31).1) (fun v46 v47 v48 => v46 = some (sa ((pp k59_31).1)) ∧ px_pok cm np v39 ∧ (∀ (pa50 : Nat → Nat) (pp50 : Nat → px_PR), pa50 = va_up pa np q61_33 → pp50 = va_up pp np ((pp k59_31).1, v47, v48) → (k59_31 < np ∧ w259_L105 (w259_L12 a0x cm ns sa ss a1x mc ms post k) a0x cm ns sa ss a1x mc ms post x2 x3 x4 x5 (some k59_31) (some np) x8 x9 v34 v35 v36 v37 v38 v39 (np + 1) pa50 pp50 (kc + 1) (ks + 3)))) (((pp k59_31).2.1) ||| r81) 1 none 0 0)))) x3 x4 q_o l_o o_reached g_o g_t mm))))))))))))))))))))) ∧ (∀ a12_28 : Nat, x7 = some a12_28 → a1x < cm ∧ ((((mm a1x).2.1 13) ≤ x9 → post q_o l_o o_reached g_o g_t mm np pa pp) ∧ (¬ ((mm a1x).2.1 13) ≤ x9 → (¬ ((x3 >>> (x9 &&& 31)) &&& 1) = 0 → w259_L131 (w259_L12 a0x cm ns sa ss a1x mc ms post k) a0x cm ns sa ss a1x mc ms post x2 x3 x4 x5 none (some a12_28) x8 x9 q_o l_o o_reached g_o g_t mm np pa pp kc ks) ∧ (((x3 >>> (x9 &&& 31)) &&& 1) = 0 → a1x < cm ∧ (a1x < cm ∧ (vp_in x9 12 ∧ (((mm a1x).2.2.2.2.2 (Int32.toNatClampNeg x9) = none → w259_L105 (w259_L12 a0x cm ns sa ss a1x mc ms post k) a0x cm ns sa ss a1x mc ms post x2 x3 x4 x5 none (some a12_28) x8 x9 q_o l_o o_reached g_o g_t mm np pa pp kc ks) ∧ (∀ k37_51 : Nat, (mm a1x).2.2.2.2.2 (Int32.toNatClampNeg x9) = some k37_51 → a1x < cm ∧ (a1x < cm ∧ (vp_in x9 12 ∧ (((mm a1x).2.2.2.2.2 (Int32.toNatClampNeg x9) = none → w259_L105 (w259_L12 a0x cm ns sa ss a1x mc ms post k) a0x cm ns sa ss a1x mc ms post x2 x3 x4 x5 none (some a12_28) x8 x9 q_o l_o o_reached g_o g_t mm np pa pp kc ks) ∧ (∀ k47_52 : Nat, (mm a1x).2.2.2.2.2 (Int32.toNatClampNeg x9) = some k47_52 → a1x < cm ∧ (a1x < cm ∧ (vp_in x9 12 ∧ (((mm a1x).2.2.2.2.2 (Int32.toNatClampNeg x9) = none → kc + 1 ≤ mc ∧ ks + 3 ≤ ms ∧ (∀ q61_54 : Nat, (False))) ∧ (∀ k59_53 : Nat, (mm a1x).2.2.2.2.2 (Int32.toNatClampNeg x9) = some k59_53 → kc + 1 ≤ mc ∧ ks + 3 ≤ ms ∧ (∀ q61_55 : Nat, (k59_53 < np ∧ (k59_53 < np ∧ (a1x < cm ∧ (w260_wp a1x cm np ns pa sa pp ss k59_53 (fun r81 v56 v57 v58 v59 v60 v61 => k59_53 < np ∧ ((((pp k59_53).2.2) = x5 → (w248_wp (sa (pp k59_53).1) (fun v63 v64 v65 => v63 = some (sa ((pp k59_53).1)) ∧ px_pok cm np v61 ∧ (∀ (pa67 : Nat → Nat) (pp67 : Nat → px_PR), pa67 = va_up pa np q61_55 → pp67 = va_up pp np ((pp k59_53).1, v64, v65) → (a12_28 < np ∧ k59_53 < np ∧ w259_L105 (w259_L12 a0x cm ns sa ss a1x mc ms post k) a0x cm ns sa ss a1x mc ms post x2 x3 x4 x5 (some k59_53) (some np) x8 x9 v56 v57 v58 v59 v60 v61 (np + 1) pa67 pp67 (kc + 1) (ks + 3)))) (((pp k59_53).2.1) ||| r81) 0 none 0 0)) ∧ (¬ ((pp k59_53).2.2) = x5 → (w248_wp (sa (pp k59_53).1) (fun v68 v69 v70 => v68 = some (sa ((pp k59_53).1)) ∧ px_pok cm np v61 ∧ (∀ (pa72 : Nat → Nat) (pp72 : Nat → px_PR), pa72 = va_up pa np q61_55 → pp72 = va_up pp np ((pp k59_53).1, v69, v70) → (a12_28 < np ∧ k59_53 < np ∧ w259_L105 (w259_L12 a0x cm ns sa ss a1x mc ms post k) a0x cm ns sa ss a1x mc ms post x2 x3 x4 x5 (some k59_53) (some np) x8 x9 v56 v57 v58 v59 v60 v61 (np + 1) pa72 pp72 (kc + 1) (ks + 3)))) (((pp k59_53).2.1) ||| r81) 1 none 0 0)))) x3 x4 q_o l_o o_reached g_o g_t mm)))))))))))))))))))))) ∧ (∀ a12_27 : Nat, x6 = some a12_27 → (x7 = none → a1x < cm ∧ ((((mm a1x).2.1 13) ≤ x9 → post q_o l_o o_reached g_o g_t mm np pa pp) ∧ (¬ ((mm a1x).2.1 13) ≤ x9 → (¬ ((x3 >>> (x9 &&& 31)) &&& 1) = 0 → w259_L131 (w259_L12 a0x cm ns sa ss a1x mc ms post k) a0x cm ns sa ss a1x mc ms post x2 x3 x4 x5 (some a12_27) none x8 x9 q_o l_o o_reached g_o g_t mm np pa pp kc ks) ∧ (((x3 >>> (x9 &&& 31)) &&& 1) = 0 → a1x < cm ∧ (a1x < cm ∧ (vp_in x9 12 ∧ (((mm a1x).2.2.2.2.2 (Int32.toNatClampNeg x9) = none → w259_L105 (w259_L12 a0x cm ns sa ss a1x mc ms post k) a0x cm ns sa ss a1x mc ms post x2 x3 x4 x5 (some a12_27) none x8 x9 q_o l_o o_reached g_o g_t mm np pa pp kc ks) ∧ (∀ k37_74 : Nat, (mm a1x).2.2.2.2.2 (Int32.toNatClampNeg x9) = some k37_74 → a1x < cm ∧ (a1x < cm ∧ (vp_in x9 12 ∧ (((mm a1x).2.2.2.2.2 (Int32.toNatClampNeg x9) = none → a1x < cm ∧ (a1x < cm ∧ (vp_in x9 12 ∧ (((mm a1x).2.2.2.2.2 (Int32.toNatClampNeg x9) = none → kc + 1 ≤ mc ∧ ks + 3 ≤ ms ∧ (∀ q61_77 : Nat, (False))) ∧ (∀ k59_76 : Nat, (mm a1x).2.2.2.2.2 (Int32.toNatClampNeg x9) = some k59_76 → kc + 1 ≤ mc ∧ ks + 3 ≤ ms ∧ (∀ q61_78 : Nat, (k59_76 < np ∧ (k59_76 < np ∧ (a1x < cm ∧ (w260_wp a1x cm np ns pa sa pp ss k59_76 (fun r81 v79 v80 v81 v82 v83 v84 => k59_76 < np ∧ ((((pp k59_76).2.2) = x5 → (w248_wp (sa (pp k59_76).1) (fun v86 v87 v88 => v86 = some (sa ((pp k59_76).1)) ∧ px_pok cm np v84 ∧ (∀ (pa90 : Nat → Nat) (pp90 : Nat → px_PR), pa90 = va_up pa np q61_78 → pp90 = va_up pp np ((pp k59_76).1, v87, v88) → (k59_76 < np ∧ w259_L105 (w259_L12 a0x cm ns sa ss a1x mc ms post k) a0x cm ns sa ss a1x mc ms post x2 x3 x4 x5 (some k59_76) (some np) x8 x9 v79 v80 v81 v82 v83 v84 (np + 1) pa90 pp90 (kc + 1) (ks + 3)))) (((pp k59_76).2.1) ||| r81) 0 none 0 0)) ∧ (¬ ((pp k59_76).2.2) = x5 → (w248_wp (sa (pp k59_76).1) (fun v91 v92 v93 => v91 = some (sa ((pp k59_76).1)) ∧ px_pok cm np v84 ∧ (∀ (pa95 : Nat → Nat) (pp95 : Nat → px_PR), pa95 = va_up pa np q61_78 → pp95 = va_up pp np ((pp k59_76).1, v92, v93) → (k59_76 < np ∧ w259_L105 (w259_L12 a0x cm ns sa ss a1x mc ms post k) a0x cm ns sa ss a1x mc ms post x2 x3 x4 x5 (some k59_76) (some np) x8 x9 v79 v80 v81 v82 v83 v84 (np + 1) pa95 pp95 (kc + 1) (ks + 3)))) (((pp k59_76).2.1) ||| r81) 1 none 0 0)))) x3 x4 q_o l_o o_reached g_o g_t mm)))))))))) ∧ (∀ k47_75 : Nat, (mm a1x).2.2.2.2.2 (Int32.toNatClampNeg x9) = some k47_75 → k47_75 < np ∧ a12_27 < np ∧ ((k47_75 = a12_27 → w259_L105 (w259_L12 a0x cm ns sa ss a1x mc ms post k) a0x cm ns sa ss a1x mc ms post x2 x3 x4 x5 (some a12_27) none x8 x9 q_o l_o o_reached g_o g_t mm np pa pp kc ks) ∧ (¬ k47_75 = a12_27 → a1x < cm ∧ (a1x < cm ∧ (vp_in x9 12 ∧ (((mm a1x).2.2.2.2.2 (Int32.toNatClampNeg x9) = none → kc + 1 ≤ mc ∧ ks + 3 ≤ ms ∧ (∀ q61_97 : Nat, (False))) ∧ (∀ k59_96 : Nat, (mm a1x).2.2.2.2.2 (Int32.toNatClampNeg x9) = some k59_96 → kc + 1 ≤ mc ∧ ks + 3 ≤ ms ∧ (∀ q61_98 : Nat, (k59_96 < np ∧ (k59_96 < np ∧ (a1x < cm ∧ (w260_wp a1x cm np ns pa sa pp ss k59_96 (fun r81 v99 v100 v101 v102 v103 v104 => k59_96 < np ∧ ((((pp k59_96).2.2) = x5 → (w248_wp (sa (pp k59_96).1) (fun v106 v107 v108 => v106 = some (sa ((pp k59_96).1)) ∧ px_pok cm np v104 ∧ (∀ (pa110 : Nat → Nat) (pp110 : Nat → px_PR), pa110 = va_up pa np q61_98 → pp110 = va_up pp np ((pp k59_96).1, v107, v108) → (k59_96 < np ∧ w259_L105 (w259_L12 a0x cm ns sa ss a1x mc ms post k) a0x cm ns sa ss a1x mc ms post x2 x3 x4 x5 (some k59_96) (some np) x8 x9 v99 v100 v101 v102 v103 v104 (np + 1) pa110 pp110 (kc + 1) (ks + 3)))) (((pp k59_96).2.1) ||| r81) 0 none 0 0)) ∧ (¬ ((pp k59_96).2.2) = x5 → (w248_wp (sa (pp k59_96).1) (fun v111 v112 v113 => v111 = some (sa ((pp k59_96).1)) ∧ px_pok cm np v104 ∧ (∀ (pa115 : Nat → Nat) (pp115 : Nat → px_PR), pa115 = va_up pa np q61_98 → pp115 = va_up pp np ((pp k59_96).1, v112, v113) → (k59_96 < np ∧ w259_L105 (w259_L12 a0x cm ns sa ss a1x mc ms post k) a0x cm ns sa ss a1x mc ms post x2 x3 x4 x5 (some k59_96) (some np) x8 x9 v99 v100 v101 v102 v103 v104 (np + 1) pa115 pp115 (kc + 1) (ks + 3)))) (((pp k59_96).2.1) ||| r81) 1 none 0 0)))) x3 x4 q_o l_o o_reached g_o g_t mm))))))))))))))))))))))) ∧ (∀ a12_73 : Nat, x7 = some a12_73 → a1x < cm ∧ ((((mm a1x).2.1 13) ≤ x9 → post q_o l_o o_reached g_o g_t mm np pa pp) ∧ (¬ ((mm a1x).2.1 13) ≤ x9 → (¬ ((x3 >>> (x9 &&& 31)) &&& 1) = 0 → w259_L131 (w259_L12 a0x cm ns sa ss a1x mc ms post k) a0x cm ns sa ss a1x mc ms post x2 x3 x4 x5 (some a12_27) (some a12_73) x8 x9 q_o l_o o_reached g_o g_t mm np pa pp kc ks) ∧ (((x3 >>> (x9 &&& 31)) &&& 1) = 0 → a1x < cm ∧ (a1x < cm ∧ (vp_in x9 12 ∧ (((mm a1x).2.2.2.2.2 (Int32.toNatClampNeg x9) = none → w259_L105 (w259_L12 a0x cm ns sa ss a1x mc ms post k) a0x cm ns sa ss a1x mc ms post x2 x3 x4 x5 (some a12_27) (some a12_73) x8 x9 q_o l_o o_reached g_o g_t mm np pa pp kc ks) ∧ (∀ k37_116 : Nat, (mm a1x).2.2.2.2.2 (Int32.toNatClampNeg x9) = some k37_116 → a1x < cm ∧ (a1x < cm ∧ (vp_in x9 12 ∧ (((mm a1x).2.2.2.2.2 (Int32.toNatClampNeg x9) = none → a1x < cm ∧ (a1x < cm ∧ (vp_in x9 12 ∧ (((mm a1x).2.2.2.2.2 (Int32.toNatClampNeg x9) = none → kc + 1 ≤ mc ∧ ks + 3 ≤ ms ∧ (∀ q61_119 : Nat, (False))) ∧ (∀ k59_118 : Nat, (mm a1x).2.2.2.2.2 (Int32.toNatClampNeg x9) = some k59_118 → kc + 1 ≤ mc ∧ ks + 3 ≤ ms ∧ (∀ q61_120 : Nat, (k59_118 < np ∧ (k59_118 < np ∧ (a1x < cm ∧ (w260_wp a1x cm np ns pa sa pp ss k59_118 (fun r81 v121 v122 v123 v124 v125 v126 => k59_118 < np ∧ ((((pp k59_118).2.2) = x5 → (w248_wp (sa (pp k59_118).1) (fun v128 v129 v130 => v128 = some (sa ((pp k59_118).1)) ∧ px_pok cm np v126 ∧ (∀ (pa132 : Nat → Nat) (pp132 : Nat → px_PR), pa132 = va_up pa np q61_120 → pp132 = va_up pp np ((pp k59_118).1, v129, v130) → (a12_73 < np ∧ k59_118 < np ∧ w259_L105 (w259_L12 a0x cm ns sa ss a1x mc ms post k) a0x cm ns sa ss a1x mc ms post x2 x3 x4 x5 (some k59_118) (some np) x8 x9 v121 v122 v123 v124 v125 v126 (np + 1) pa132 pp132 (kc + 1) (ks + 3)))) (((pp k59_118).2.1) ||| r81) 0 none 0 0)) ∧ (¬ ((pp k59_118).2.2) = x5 → (w248_wp (sa (pp k59_118).1) (fun v133 v134 v135 => v133 = some (sa ((pp k59_118).1)) ∧ px_pok cm np v126 ∧ (∀ (pa137 : Nat → Nat) (pp137 : Nat → px_PR), pa137 = va_up pa np q61_120 → pp137 = va_up pp np ((pp k59_118).1, v134, v135) → (a12_73 < np ∧ k59_118 < np ∧ w259_L105 (w259_L12 a0x cm ns sa ss a1x mc ms post k) a0x cm ns sa ss a1x mc ms post x2 x3 x4 x5 (some k59_118) (some np) x8 x9 v121 v122 v123 v124 v125 v126 (np + 1) pa137 pp137 (kc + 1) (ks + 3)))) (((pp k59_118).2.1) ||| r81) 1 none 0 0)))) x3 x4 q_o l_o o_reached g_o g_t mm)))))))))) ∧ (∀ k47_117 : Nat, (mm a1x).2.2.2.2.2 (Int32.toNatClampNeg x9) = some k47_117 → k47_117 < np ∧ a12_27 < np ∧ ((k47_117 = a12_27 → w259_L105 (w259_L12 a0x cm ns sa ss a1x mc ms post k) a0x cm ns sa ss a1x mc ms post x2 x3 x4 x5 (some a12_27) (some a12_73) x8 x9 q_o l_o o_reached g_o g_t mm np pa pp kc ks) ∧ (¬ k47_117 = a12_27 → a1x < cm ∧ (a1x < cm ∧ (vp_in x9 12 ∧ (((mm a1x).2.2.2.2.2 (Int32.toNatClampNeg x9) = none → kc + 1 ≤ mc ∧ ks + 3 ≤ ms ∧ (∀ q61_139 : Nat, (False))) ∧ (∀ k59_138 : Nat, (mm a1x).2.2.2.2.2 (Int32.toNatClampNeg x9) = some k59_138 → kc + 1 ≤ mc ∧ ks + 3 ≤ ms ∧ (∀ q61_140 : Nat, (k59_138 < np ∧ (k59_138 < np ∧ (a1x < cm ∧ (w260_wp a1x cm np ns pa sa pp ss k59_138 (fun r81 v141 v142 v143 v144 v145 v146 => k59_138 < np ∧ ((((pp k59_138).2.2) = x5 → (w248_wp (sa (pp k59_138).1) (fun v148 v149 v150 => v148 = some (sa ((pp k59_138).1)) ∧ px_pok cm np v146 ∧ (∀ (pa152 : Nat → Nat) (pp152 : Nat → px_PR), pa152 = va_up pa np q61_140 → pp152 = va_up pp np ((pp k59_138).1, v149, v150) → (a12_73 < np ∧ k59_138 < np ∧ w259_L105 (w259_L12 a0x cm ns sa ss a1x mc ms post k) a0x cm ns sa ss a1x mc ms post x2 x3 x4 x5 (some k59_138) (some np) x8 x9 v141 v142 v143 v144 v145 v146 (np + 1) pa152 pp152 (kc + 1) (ks + 3)))) (((pp k59_138).2.1) ||| r81) 0 none 0 0)) ∧ (¬ ((pp k59_138).2.2) = x5 → (w248_wp (sa (pp k59_138).1) (fun v153 v154 v155 => v153 = some (sa ((pp k59_138).1)) ∧ px_pok cm np v146 ∧ (∀ (pa157 : Nat → Nat) (pp157 : Nat → px_PR), pa157 = va_up pa np q61_140 → pp157 = va_up pp np ((pp k59_138).1, v154, v155) → (a12_73 < np ∧ k59_138 < np ∧ w259_L105 (w259_L12 a0x cm ns sa ss a1x mc ms post k) a0x cm ns sa ss a1x mc ms post x2 x3 x4 x5 (some k59_138) (some np) x8 x9 v141 v142 v143 v144 v145 v146 (np + 1) pa157 pp157 (kc + 1) (ks + 3)))) (((pp k59_138).2.1) ||| r81) 1 none 0 0)))) x3 x4 q_o l_o o_reached g_o g_t mm))))))))))))))))))))))))
def w259_wp (a0x : Nat) (cm : Nat) (ns : Nat) (sa : Nat → Nat) (ss : Nat → px_SR) (a1x : Nat) (mc : Nat) (ms : Nat) (post : Nat → Nat → Int32 → (Nat → Int32) → (Nat → Int32) → (Nat → px_MR) → Nat → (Nat → Nat) → (Nat → px_PR) → Prop) (a2x : Int32) (a3x : Int32) (a4x : Int32) (a5x : Int32) (q_o : Nat) (l_o : Nat) (o_reached : Int32) (g_o : Nat → Int32) (g_t : Nat → Int32) (mm : Nat → px_MR) (np : Nat) (pa : Nat → Nat) (pp : Nat → px_PR) : Prop := ∃ j12, w259_L12 a0x cm ns sa ss a1x mc ms post j12 a2x a3x a4x a5x none none a2x 0 q_o l_o o_reached g_o g_t mm np pa pp 0 0
set_option maxHeartbeats 8000000 in
set_option maxRecDepth 100000 in
theorem w259_met (l : Launch) (dC : Nat → ClassId) (dI : Nat → Nat → Nat) (sz : Nat) (ho : Nat) (q_t : Nat) (a0x : Nat) (cc : px_CC) (cm : Nat) (ns : Nat) (hm : Nat → Nat) (sa : Nat → Nat) (ss : Nat → px_SR) (a1x : Nat) (mc : Nat) (ms : Nat) (a2x : Int32) (a3x : Int32) (a4x : Int32) (a5x : Int32) (q_o : Nat) (l_o : Nat) (o_reached : Int32) (g_o : Nat → Int32) (g_t : Nat → Int32) (mm : Nat → px_MR) (np : Nat) (pa : Nat → Nat) (pp : Nat → px_PR) (post : Nat → Nat → Int32 → (Nat → Int32) → (Nat → Int32) → (Nat → px_MR) → Nat → (Nat → Nat) → (Nat → px_PR) → Prop) (hw : w259_wp a0x cm ns sa ss a1x mc ms post a2x a3x a4x a5x q_o l_o o_reached g_o g_t mm np pa pp) : Met l px_y259 px_s259 ({ frames := 2, cells := mc, slots := ms, locals := 35 }) (va_Pc [.ref (hm a0x), .ref (hm a1x), .int a2x, .int a3x, .int a4x, .int a5x] (fun U => U.heap.size = sz ∧ va_P (dC, dI) vwCl (([(ho, .inr (1, [.ref q_o, .ref q_t, .int o_reached])), (q_o, .inl (cc.2.1, l_o, .inl g_o)), (q_t, .inl (cc.2.1, 182, .inl g_t))] : va_W) ++ px_cp cc ho cm np ns hm pa sa mm pp ss) U.heap ∧ va_K (dC, dI) vwCl [(cc.2.1, .int), (cc.2.2.2.1, .byte), (cc.2.2.2.2, .long), (cc.1, .object "MatroidDesk$Part"), (cc.2.2.1, (.array .int))] U ∧ va_D (fun _ => True) (([(ho, .inr (1, [.ref q_o, .ref q_t, .int o_reached])), (q_o, .inl (cc.2.1, l_o, .inl g_o)), (q_t, .inl (cc.2.1, 182, .inl g_t))] : va_W) ++ px_cp cc ho cm np ns hm pa sa mm pp ss) ∧ px_N U)) (va_Qv (fun (u : Nat × Nat × Int32 × (Nat → Int32) × (Nat → Int32) × (Nat → px_MR) × Nat × (Nat → Nat) × (Nat → px_PR)) => post u.1 u.2.1 u.2.2.1 u.2.2.2.1 u.2.2.2.2.1 u.2.2.2.2.2.1 u.2.2.2.2.2.2.1 u.2.2.2.2.2.2.2.1 u.2.2.2.2.2.2.2.2) (fun (u : Nat × Nat × Int32 × (Nat → Int32) × (Nat → Int32) × (Nat → px_MR) × Nat × (Nat → Nat) × (Nat → px_PR)) (t : State) => va_P (dC, dI) vwCl (([(ho, .inr (1, [.ref u.1, .ref q_t, .int u.2.2.1])), (u.1, .inl (cc.2.1, u.2.1, .inl u.2.2.2.1)), (q_t, .inl (cc.2.1, 182, .inl u.2.2.2.2.1))] : va_W) ++ px_cp cc ho cm u.2.2.2.2.2.2.1 ns hm u.2.2.2.2.2.2.2.1 sa u.2.2.2.2.2.1 u.2.2.2.2.2.2.2.2 ss) t.heap ∧ va_K (dC, dI) vwCl [(cc.2.1, .int), (cc.2.2.2.1, .byte), (cc.2.2.2.2, .long), (cc.1, .object "MatroidDesk$Part"), (cc.2.2.1, (.array .int))] t ∧ va_D (va_A (([(ho, .inr (1, [.ref q_o, .ref q_t, .int o_reached])), (q_o, .inl (cc.2.1, l_o, .inl g_o)), (q_t, .inl (cc.2.1, 182, .inl g_t))] : va_W) ++ px_cp cc ho cm np ns hm pa sa mm pp ss) sz) (([(ho, .inr (1, [.ref u.1, .ref q_t, .int u.2.2.1])), (u.1, .inl (cc.2.1, u.2.1, .inl u.2.2.2.1)), (q_t, .inl (cc.2.1, 182, .inl u.2.2.2.2.1))] : va_W) ++ px_cp cc ho cm u.2.2.2.2.2.2.1 ns hm u.2.2.2.2.2.2.2.1 sa u.2.2.2.2.2.1 u.2.2.2.2.2.2.2.2 ss)) (va_A (([(ho, .inr (1, [.ref q_o, .ref q_t, .int o_reached])), (q_o, .inl (cc.2.1, l_o, .inl g_o)), (q_t, .inl (cc.2.1, 182, .inl g_t))] : va_W) ++ px_cp cc ho cm np ns hm pa sa mm pp ss) sz)) mc ms (va_A (([(ho, .inr (1, [.ref q_o, .ref q_t, .int o_reached])), (q_o, .inl (cc.2.1, l_o, .inl g_o)), (q_t, .inl (cc.2.1, 182, .inl g_t))] : va_W) ++ px_cp cc ho cm np ns hm pa sa mm pp ss) sz) := by
  refine Met.ofW (cc := prog_3_method_20_code) (maxL := 10) (ret := none) (by decide) rfl ?_
  intro p e s m args below meth c s₁ B hml hv
  obtain ⟨rfl, hsz, hP, hK, hD0, hN⟩ := hv
  have hx := B.exec
  have hb := B.bytes
  have hr := B.returns
  have htw : ∀ w ∈ px_all, w.before _ s = true := fun w h => atoms_spec (ws := px_s259) B.pre w (List.mem_cons_of_mem _ h)
  have hown : s.vm.findClass "MatroidDesk$Matroid" = some m.cls := findClass_of_methodNamed B.named
  have hlocks := B.notSynchronized
  subst hsz
  have hD := hD0.self (sz := s.heap.size)
  generalize hAe : va_A (([(ho, .inr (1, [.ref q_o, .ref q_t, .int o_reached])), (q_o, .inl (cc.2.1, l_o, .inl g_o)), (q_t, .inl (cc.2.1, 182, .inl g_t))] : va_W) ++ px_cp cc ho cm np ns hm pa sa mm pp ss) s.heap.size = A at hD ⊢
  have hA : ∀ q : Nat, s.heap.size ≤ q → A q := fun q h => by rw [← hAe]; exact Or.inr h
  have hS : va_S A s.heap s.heap [] := va_S.rf
  have hP : va_P (dC, dI) vwCl (([(ho, .inr (1, [.ref q_o, .ref q_t, .int o_reached])), (q_o, .inl (cc.2.1, l_o, .inl g_o)), (q_t, .inl (cc.2.1, 182, .inl g_t))] : va_W) ++ px_cp cc ho cm np ns hm pa sa mm pp ss) s.heap := hP
  have hl := lv_entry ([.ref (hm a0x), .ref (hm a1x), .int a2x, .int a3x, .int a4x, .int a5x]) (n := 10) (Nat.le_of_ble_eq_true rfl)
  rw [lg_entry_eq]
  generalize (lg_sl ([.ref (hm a0x), .ref (hm a1x), .int a2x, .int a3x, .int a4x, .int a5x]) ++ List.replicate (10 - (lg_sl ([.ref (hm a0x), .ref (hm a1x), .int a2x, .int a3x, .int a4x, .int a5x])).length) Slot.unset).toArray = ls at hl ⊢
  have hl : lv_has ls 10 [(0, .ref (hm a0x)), (1, .ref (hm a1x)), (2, .int a2x), (3, .int a3x), (4, .int a4x), (5, .int a5x)] := hl
  generalize hQ : MQ _ _ _ _ _ _ _ = Q
  have S12 : ∀ (k12 : Nat) (x2 : Int32) (x3 : Int32) (x4 : Int32) (x5 : Int32) (x6 : (Option Nat)) (x7 : (Option Nat)) (x8 : Int32) (x9 : Int32) (q_o : Nat) (l_o : Nat) (o_reached : Int32) (g_o : Nat → Int32) (g_t : Nat → Int32) (mm : Nat → px_MR) (np : Nat) (pa : Nat → Nat) (pp : Nat → px_PR) (kc : Nat) (ks : Nat) (H : Heap) (locs : List Loc) (ls : Array Slot), kc ≤ mc → ks ≤ ms → va_P (dC, dI) vwCl (([(ho, .inr (1, [.ref q_o, .ref q_t, .int o_reached])), (q_o, .inl (cc.2.1, l_o, .inl g_o)), (q_t, .inl (cc.2.1, 182, .inl g_t))] : va_W) ++ px_cp cc ho cm np ns hm pa sa mm pp ss) H → va_D A (([(ho, .inr (1, [.ref q_o, .ref q_t, .int o_reached])), (q_o, .inl (cc.2.1, l_o, .inl g_o)), (q_t, .inl (cc.2.1, 182, .inl g_t))] : va_W) ++ px_cp cc ho cm np ns hm pa sa mm pp ss) → va_S A s.heap H locs → lv_has ls 10 [(0, .ref (hm a0x)), (1, .ref (hm a1x)), (2, .int x2), (3, .int x3), (4, .int x4), (5, .int x5), (6, va_rf (Option.map pa x6)), (7, va_rf (Option.map pa x7)), (8, .int x8), (9, .int x9)] → w259_L12 a0x cm ns sa ss a1x mc ms post k12 x2 x3 x4 x5 x6 x7 x8 x9 q_o l_o o_reached g_o g_t mm np pa pp kc ks → W p l e (headSpec px_s259 ({ frames := 2, cells := mc, slots := ms, locals := 35 })).room s m ([.ref (hm a0x), .ref (hm a1x), .int a2x, .int a3x, .int a4x, .int a5x]).toArray below meth c H locs kc ks Q (F0 m 12 ls []) := by
    intro k12
    induction k12 with
    | zero => intro x2 x3 x4 x5 x6 x7 x8 x9 q_o l_o o_reached g_o g_t mm np pa pp kc ks H locs ls hkc hks hP hD hS hl hw; exact False.elim hw
    | succ k12 ih12 =>
      have S131 : ∀ (x2 : Int32) (x3 : Int32) (x4 : Int32) (x5 : Int32) (x6 : (Option Nat)) (x7 : (Option Nat)) (x8 : Int32) (x9 : Int32) (q_o : Nat) (l_o : Nat) (o_reached : Int32) (g_o : Nat → Int32) (g_t : Nat → Int32) (mm : Nat → px_MR) (np : Nat) (pa : Nat → Nat) (pp : Nat → px_PR) (kc : Nat) (ks : Nat) (H : Heap) (locs : List Loc) (ls : Array Slot), kc ≤ mc → ks ≤ ms → va_P (dC, dI) vwCl (([(ho, .inr (1, [.ref q_o, .ref q_t, .int o_reached])), (q_o, .inl (cc.2.1, l_o, .inl g_o)), (q_t, .inl (cc.2.1, 182, .inl g_t))] : va_W) ++ px_cp cc ho cm np ns hm pa sa mm pp ss) H → va_D A (([(ho, .inr (1, [.ref q_o, .ref q_t, .int o_reached])), (q_o, .inl (cc.2.1, l_o, .inl g_o)), (q_t, .inl (cc.2.1, 182, .inl g_t))] : va_W) ++ px_cp cc ho cm np ns hm pa sa mm pp ss) → va_S A s.heap H locs → lv_has ls 10 [(0, .ref (hm a0x)), (1, .ref (hm a1x)), (2, .int x2), (3, .int x3), (4, .int x4), (5, .int x5), (6, va_rf (Option.map pa x6)), (7, va_rf (Option.map pa x7)), (8, .int x8), (9, .int x9)] → w259_L131 (w259_L12 a0x cm ns sa ss a1x mc ms post k12) a0x cm ns sa ss a1x mc ms post x2 x3 x4 x5 x6 x7 x8 x9 q_o l_o o_reached g_o g_t mm np pa pp kc ks → W p l e (headSpec px_s259 ({ frames := 2, cells := mc, slots := ms, locals := 35 })).room s m ([.ref (hm a0x), .ref (hm a1x), .int a2x, .int a3x, .int a4x, .int a5x]).toArray below meth c H locs kc ks Q (F0 m 131 ls []) := by
        intro x2 x3 x4 x5 x6 x7 x8 x9 q_o l_o o_reached g_o g_t mm np pa pp kc ks H locs ls hkc hks hP hD hS hl hw
        unfold w259_L131 at hw
        cases x6 with
        | none =>
          have hw := hw.1 rfl
          have hP : va_P (dC, dI) vwCl (([(ho, .inr (1, [.ref q_o, .ref q_t, .int o_reached])), (q_o, .inl (cc.2.1, l_o, .inl g_o)), (q_t, .inl (cc.2.1, 182, .inl g_t))] : va_W) ++ px_cp cc ho cm np ns hm pa sa mm pp ss) H := hP
          have hD : va_D A (([(ho, .inr (1, [.ref q_o, .ref q_t, .int o_reached])), (q_o, .inl (cc.2.1, l_o, .inl g_o)), (q_t, .inl (cc.2.1, 182, .inl g_t))] : va_W) ++ px_cp cc ho cm np ns hm pa sa mm pp ss) := hD
          have hl : lv_has ls 10 [(0, .ref (hm a0x)), (1, .ref (hm a1x)), (2, .int x2), (3, .int x3), (4, .int x4), (5, .int x5), (6, .null), (7, va_rf (Option.map pa x7)), (8, .int x8), (9, .int x9)] := hl
          refine W.eq (g2 := F0 m 131 ls []) rfl ?_
          cases x7 with
          | none =>
            have hw := hw.1 rfl
            have hP : va_P (dC, dI) vwCl (([(ho, .inr (1, [.ref q_o, .ref q_t, .int o_reached])), (q_o, .inl (cc.2.1, l_o, .inl g_o)), (q_t, .inl (cc.2.1, 182, .inl g_t))] : va_W) ++ px_cp cc ho cm np ns hm pa sa mm pp ss) H := hP
            have hD : va_D A (([(ho, .inr (1, [.ref q_o, .ref q_t, .int o_reached])), (q_o, .inl (cc.2.1, l_o, .inl g_o)), (q_t, .inl (cc.2.1, 182, .inl g_t))] : va_W) ++ px_cp cc ho cm np ns hm pa sa mm pp ss) := hD
            have hl : lv_has ls 10 [(0, .ref (hm a0x)), (1, .ref (hm a1x)), (2, .int x2), (3, .int x3), (4, .int x4), (5, .int x5), (6, .null), (7, .null), (8, .int x8), (9, .int x9)] := hl
            refine W.eq (g2 := F0 m 131 ls []) rfl ?_
            obtain ⟨z3, ez3⟩ : ∃ y : Int32, y = x9 + 1 := ⟨_, rfl⟩
            have hw := hw z3 ez3
            refine lv_iinc (v := z3) (lv' := [(9, .int z3), (0, .ref (hm a0x)), (1, .ref (hm a1x)), (2, .int x2), (3, .int x3), (4, .int x4), (5, .int x5), (6, .null), (7, .null), (8, .int x8)]) hx hb px_d259_131 hl (k := 9) rfl (by rw [ez3]; rfl) (by decide) rfl (fun ls hl => ?_)
            refine lv_goto (tgt := 12) hx hb px_d259_134 (by decide) ?_
            exact ih12 x2 x3 x4 x5 none none x8 z3 q_o l_o o_reached g_o g_t mm np pa pp kc ks H locs ls hkc hks hP hD hS (lv_sub hl [1, 2, 3, 4, 5, 6, 7, 8, 9, 0] rfl) hw
          | some a131_2 =>
            have hw := hw.2 a131_2 rfl
            have hP : va_P (dC, dI) vwCl (([(ho, .inr (1, [.ref q_o, .ref q_t, .int o_reached])), (q_o, .inl (cc.2.1, l_o, .inl g_o)), (q_t, .inl (cc.2.1, 182, .inl g_t))] : va_W) ++ px_cp cc ho cm np ns hm pa sa mm pp ss) H := hP
            have hD : va_D A (([(ho, .inr (1, [.ref q_o, .ref q_t, .int o_reached])), (q_o, .inl (cc.2.1, l_o, .inl g_o)), (q_t, .inl (cc.2.1, 182, .inl g_t))] : va_W) ++ px_cp cc ho cm np ns hm pa sa mm pp ss) := hD
            have hl : lv_has ls 10 [(0, .ref (hm a0x)), (1, .ref (hm a1x)), (2, .int x2), (3, .int x3), (4, .int x4), (5, .int x5), (6, .null), (7, .ref (pa a131_2)), (8, .int x8), (9, .int x9)] := hl
            refine W.eq (g2 := F0 m 131 ls []) rfl ?_
            obtain ⟨z4, ez4⟩ : ∃ y : Int32, y = x9 + 1 := ⟨_, rfl⟩
            have hw := hw z4 ez4
            refine lv_iinc (v := z4) (lv' := [(9, .int z4), (0, .ref (hm a0x)), (1, .ref (hm a1x)), (2, .int x2), (3, .int x3), (4, .int x4), (5, .int x5), (6, .null), (7, .ref (pa a131_2)), (8, .int x8)]) hx hb px_d259_131 hl (k := 9) rfl (by rw [ez4]; rfl) (by decide) rfl (fun ls hl => ?_)
            refine lv_goto (tgt := 12) hx hb px_d259_134 (by decide) ?_
            exact ih12 x2 x3 x4 x5 none (some a131_2) x8 z4 q_o l_o o_reached g_o g_t mm np pa pp kc ks H locs ls hkc hks hP hD hS (lv_sub hl [1, 2, 3, 4, 5, 6, 7, 8, 9, 0] rfl) hw
        | some a131_1 =>
          have hw := hw.2 a131_1 rfl
          have hP : va_P (dC, dI) vwCl (([(ho, .inr (1, [.ref q_o, .ref q_t, .int o_reached])), (q_o, .inl (cc.2.1, l_o, .inl g_o)), (q_t, .inl (cc.2.1, 182, .inl g_t))] : va_W) ++ px_cp cc ho cm np ns hm pa sa mm pp ss) H := hP
          have hD : va_D A (([(ho, .inr (1, [.ref q_o, .ref q_t, .int o_reached])), (q_o, .inl (cc.2.1, l_o, .inl g_o)), (q_t, .inl (cc.2.1, 182, .inl g_t))] : va_W) ++ px_cp cc ho cm np ns hm pa sa mm pp ss) := hD
          have hl : lv_has ls 10 [(0, .ref (hm a0x)), (1, .ref (hm a1x)), (2, .int x2), (3, .int x3), (4, .int x4), (5, .int x5), (6, .ref (pa a131_1)), (7, va_rf (Option.map pa x7)), (8, .int x8), (9, .int x9)] := hl
          refine W.eq (g2 := F0 m 131 ls []) rfl ?_
          cases x7 with
          | none =>
            have hw := hw.1 rfl
            have hP : va_P (dC, dI) vwCl (([(ho, .inr (1, [.ref q_o, .ref q_t, .int o_reached])), (q_o, .inl (cc.2.1, l_o, .inl g_o)), (q_t, .inl (cc.2.1, 182, .inl g_t))] : va_W) ++ px_cp cc ho cm np ns hm pa sa mm pp ss) H := hP
            have hD : va_D A (([(ho, .inr (1, [.ref q_o, .ref q_t, .int o_reached])), (q_o, .inl (cc.2.1, l_o, .inl g_o)), (q_t, .inl (cc.2.1, 182, .inl g_t))] : va_W) ++ px_cp cc ho cm np ns hm pa sa mm pp ss) := hD
            have hl : lv_has ls 10 [(0, .ref (hm a0x)), (1, .ref (hm a1x)), (2, .int x2), (3, .int x3), (4, .int x4), (5, .int x5), (6, .ref (pa a131_1)), (7, .null), (8, .int x8), (9, .int x9)] := hl
            refine W.eq (g2 := F0 m 131 ls []) rfl ?_
            obtain ⟨z6, ez6⟩ : ∃ y : Int32, y = x9 + 1 := ⟨_, rfl⟩
            have hw := hw z6 ez6
            refine lv_iinc (v := z6) (lv' := [(9, .int z6), (0, .ref (hm a0x)), (1, .ref (hm a1x)), (2, .int x2), (3, .int x3), (4, .int x4), (5, .int x5), (6, .ref (pa a131_1)), (7, .null), (8, .int x8)]) hx hb px_d259_131 hl (k := 9) rfl (by rw [ez6]; rfl) (by decide) rfl (fun ls hl => ?_)
            refine lv_goto (tgt := 12) hx hb px_d259_134 (by decide) ?_
            exact ih12 x2 x3 x4 x5 (some a131_1) none x8 z6 q_o l_o o_reached g_o g_t mm np pa pp kc ks H locs ls hkc hks hP hD hS (lv_sub hl [1, 2, 3, 4, 5, 6, 7, 8, 9, 0] rfl) hw
          | some a131_5 =>
            have hw := hw.2 a131_5 rfl
            have hP : va_P (dC, dI) vwCl (([(ho, .inr (1, [.ref q_o, .ref q_t, .int o_reached])), (q_o, .inl (cc.2.1, l_o, .inl g_o)), (q_t, .inl (cc.2.1, 182, .inl g_t))] : va_W) ++ px_cp cc ho cm np ns hm pa sa mm pp ss) H := hP
            have hD : va_D A (([(ho, .inr (1, [.ref q_o, .ref q_t, .int o_reached])), (q_o, .inl (cc.2.1, l_o, .inl g_o)), (q_t, .inl (cc.2.1, 182, .inl g_t))] : va_W) ++ px_cp cc ho cm np ns hm pa sa mm pp ss) := hD
            have hl : lv_has ls 10 [(0, .ref (hm a0x)), (1, .ref (hm a1x)), (2, .int x2), (3, .int x3), (4, .int x4), (5, .int x5), (6, .ref (pa a131_1)), (7, .ref (pa a131_5)), (8, .int x8), (9, .int x9)] := hl
            refine W.eq (g2 := F0 m 131 ls []) rfl ?_
            obtain ⟨z7, ez7⟩ : ∃ y : Int32, y = x9 + 1 := ⟨_, rfl⟩
            have hw := hw z7 ez7
            refine lv_iinc (v := z7) (lv' := [(9, .int z7), (0, .ref (hm a0x)), (1, .ref (hm a1x)), (2, .int x2), (3, .int x3), (4, .int x4), (5, .int x5), (6, .ref (pa a131_1)), (7, .ref (pa a131_5)), (8, .int x8)]) hx hb px_d259_131 hl (k := 9) rfl (by rw [ez7]; rfl) (by decide) rfl (fun ls hl => ?_)
            refine lv_goto (tgt := 12) hx hb px_d259_134 (by decide) ?_
            exact ih12 x2 x3 x4 x5 (some a131_1) (some a131_5) x8 z7 q_o l_o o_reached g_o g_t mm np pa pp kc ks H locs ls hkc hks hP hD hS (lv_sub hl [1, 2, 3, 4, 5, 6, 7, 8, 9, 0] rfl) hw
      have S105 : ∀ (x2 : Int32) (x3 : Int32) (x4 : Int32) (x5 : Int32) (x6 : (Option Nat)) (x7 : (Option Nat)) (x8 : Int32) (x9 : Int32) (q_o : Nat) (l_o : Nat) (o_reached : Int32) (g_o : Nat → Int32) (g_t : Nat → Int32) (mm : Nat → px_MR) (np : Nat) (pa : Nat → Nat) (pp : Nat → px_PR) (kc : Nat) (ks : Nat) (H : Heap) (locs : List Loc) (ls : Array Slot), kc ≤ mc → ks ≤ ms → va_P (dC, dI) vwCl (([(ho, .inr (1, [.ref q_o, .ref q_t, .int o_reached])), (q_o, .inl (cc.2.1, l_o, .inl g_o)), (q_t, .inl (cc.2.1, 182, .inl g_t))] : va_W) ++ px_cp cc ho cm np ns hm pa sa mm pp ss) H → va_D A (([(ho, .inr (1, [.ref q_o, .ref q_t, .int o_reached])), (q_o, .inl (cc.2.1, l_o, .inl g_o)), (q_t, .inl (cc.2.1, 182, .inl g_t))] : va_W) ++ px_cp cc ho cm np ns hm pa sa mm pp ss) → va_S A s.heap H locs → lv_has ls 10 [(0, .ref (hm a0x)), (1, .ref (hm a1x)), (2, .int x2), (3, .int x3), (4, .int x4), (5, .int x5), (6, va_rf (Option.map pa x6)), (7, va_rf (Option.map pa x7)), (8, .int x8), (9, .int x9)] → w259_L105 (w259_L12 a0x cm ns sa ss a1x mc ms post k12) a0x cm ns sa ss a1x mc ms post x2 x3 x4 x5 x6 x7 x8 x9 q_o l_o o_reached g_o g_t mm np pa pp kc ks → W p l e (headSpec px_s259 ({ frames := 2, cells := mc, slots := ms, locals := 35 })).room s m ([.ref (hm a0x), .ref (hm a1x), .int a2x, .int a3x, .int a4x, .int a5x]).toArray below meth c H locs kc ks Q (F0 m 105 ls []) := by
        intro x2 x3 x4 x5 x6 x7 x8 x9 q_o l_o o_reached g_o g_t mm np pa pp kc ks H locs ls hkc hks hP hD hS hl hw
        unfold w259_L105 at hw
        cases x6 with
        | none =>
          have hw := hw.1 rfl
          have hP : va_P (dC, dI) vwCl (([(ho, .inr (1, [.ref q_o, .ref q_t, .int o_reached])), (q_o, .inl (cc.2.1, l_o, .inl g_o)), (q_t, .inl (cc.2.1, 182, .inl g_t))] : va_W) ++ px_cp cc ho cm np ns hm pa sa mm pp ss) H := hP
          have hD : va_D A (([(ho, .inr (1, [.ref q_o, .ref q_t, .int o_reached])), (q_o, .inl (cc.2.1, l_o, .inl g_o)), (q_t, .inl (cc.2.1, 182, .inl g_t))] : va_W) ++ px_cp cc ho cm np ns hm pa sa mm pp ss) := hD
          have hl : lv_has ls 10 [(0, .ref (hm a0x)), (1, .ref (hm a1x)), (2, .int x2), (3, .int x3), (4, .int x4), (5, .int x5), (6, .null), (7, va_rf (Option.map pa x7)), (8, .int x8), (9, .int x9)] := hl
          refine W.eq (g2 := F0 m 105 ls []) rfl ?_
          cases x7 with
          | none =>
            have hw := hw.1 rfl
            have hP : va_P (dC, dI) vwCl (([(ho, .inr (1, [.ref q_o, .ref q_t, .int o_reached])), (q_o, .inl (cc.2.1, l_o, .inl g_o)), (q_t, .inl (cc.2.1, 182, .inl g_t))] : va_W) ++ px_cp cc ho cm np ns hm pa sa mm pp ss) H := hP
            have hD : va_D A (([(ho, .inr (1, [.ref q_o, .ref q_t, .int o_reached])), (q_o, .inl (cc.2.1, l_o, .inl g_o)), (q_t, .inl (cc.2.1, 182, .inl g_t))] : va_W) ++ px_cp cc ho cm np ns hm pa sa mm pp ss) := hD
            have hl : lv_has ls 10 [(0, .ref (hm a0x)), (1, .ref (hm a1x)), (2, .int x2), (3, .int x3), (4, .int x4), (5, .int x5), (6, .null), (7, .null), (8, .int x8), (9, .int x9)] := hl
            refine W.eq (g2 := F0 m 105 ls []) rfl ?_
            refine lv_aload_n hx hb px_d259_105 rfl (lv_at hl 0 rfl) ?_
            obtain ⟨hp106, hw⟩ := hw
            refine va_get (D := (dC, dI)) (ci := 10) (v := .ref ((mm a0x).1 1)) (C := "MatroidDesk$Matroid") (T := px_T10) (N := 15) hx hb htw px_in10 hown hK hP (3 + (13 * a0x + 0)) (px_cg0 rfl hp106) rfl 1 (by decide) (htw _ px_w1000) (fun _ h9 => h9) rfl px_d259_106 ?_
            refine lv_iload hx hb px_d259_109 (lv_at hl 8 rfl) ?_
            refine lv_aloadN hx hb px_d259_111 (lv_at hl 7 rfl) ?_
            obtain ⟨hp113, hw⟩ := hw
            obtain ⟨hi113, hw⟩ := hw
            obtain ⟨mm10, emm10⟩ : ∃ z : Nat → px_MR, z = va_up mm a0x ((mm a0x).1, (mm a0x).2.1, (mm a0x).2.2.1, (mm a0x).2.2.2.1, (mm a0x).2.2.2.2.1, va_up (mm a0x).2.2.2.2.2 (Int32.toNatClampNeg x8) none) := ⟨_, rfl⟩
            refine va_astqN hx hb hK hP hD hS (3 + (13 * a0x + 1)) 3 (px_cg1 rfl hp113) rfl hi113 px_d259_113 (fun H locs hP hD hS => ?_)
            have hP : va_P (dC, dI) vwCl (([(ho, .inr (1, [.ref q_o, .ref q_t, .int o_reached])), (q_o, .inl (cc.2.1, l_o, .inl g_o)), (q_t, .inl (cc.2.1, 182, .inl g_t))] : va_W) ++ px_cp cc ho cm np ns hm pa sa mm10 pp ss) H := px_csP rfl hp113 (by decide) (px_hcPN _ _ _) (px_hrP _ _ _) emm10 hP
            have hD : va_D A (([(ho, .inr (1, [.ref q_o, .ref q_t, .int o_reached])), (q_o, .inl (cc.2.1, l_o, .inl g_o)), (q_t, .inl (cc.2.1, 182, .inl g_t))] : va_W) ++ px_cp cc ho cm np ns hm pa sa mm10 pp ss) := px_csD rfl hp113 (by decide) (px_hcPN _ _ _) (px_hrP _ _ _) emm10 hD
            have hw := hw mm10 emm10
            refine lv_aload_n hx hb px_d259_114 rfl (lv_at hl 0 rfl) ?_
            obtain ⟨hp115, hw⟩ := hw
            refine va_get (D := (dC, dI)) (ci := 10) (v := .ref ((mm10 a0x).1 2)) (C := "MatroidDesk$Matroid") (T := px_T10) (N := 15) hx hb htw px_in10 hown hK hP (3 + (13 * a0x + 0)) (px_cg0 rfl hp115) rfl 2 (by decide) (htw _ px_w1001) (fun _ h9 => h9) rfl px_d259_115 ?_
            refine lv_iload hx hb px_d259_118 (lv_at hl 8 rfl) ?_
            refine lv_aload_n hx hb px_d259_120 rfl (lv_at hl 1 rfl) ?_
            obtain ⟨hp121, hw⟩ := hw
            refine va_get (D := (dC, dI)) (ci := 10) (v := .ref ((mm10 a1x).1 2)) (C := "MatroidDesk$Matroid") (T := px_T10) (N := 15) hx hb htw px_in10 hown hK hP (3 + (13 * a1x + 0)) (px_cg0 rfl hp121) rfl 2 (by decide) (htw _ px_w1001) (fun _ h9 => h9) rfl px_d259_121 ?_
            refine lv_iload hx hb px_d259_124 (lv_at hl 9 rfl) ?_
            obtain ⟨hp126, hw⟩ := hw
            obtain ⟨hi126, hw⟩ := hw
            refine va_iald hx hb hK hP (3 + (13 * a1x + 2)) 0 (px_cg2 rfl hp126) rfl hi126 px_d259_126 ?_
            refine lv_topi (fun z11 ez11 => ?_)
            have hw := hw z11 ez11
            obtain ⟨hp127, hw⟩ := hw
            obtain ⟨hi127, hw⟩ := hw
            obtain ⟨mm12, emm12⟩ : ∃ z : Nat → px_MR, z = va_up mm10 a0x ((mm10 a0x).1, (mm10 a0x).2.1, (mm10 a0x).2.2.1, va_up (mm10 a0x).2.2.2.1 2 (upd ((mm10 a0x).2.2.2.1 2) (Int32.toNatClampNeg x8) z11), (mm10 a0x).2.2.2.2) := ⟨_, rfl⟩
            refine va_iast hx hb hK hP hD hS (3 + (13 * a0x + 2)) 0 (px_cg2 rfl hp127) rfl hi127 px_d259_127 (fun H locs hP hD hS => ?_)
            have hP : va_P (dC, dI) vwCl (([(ho, .inr (1, [.ref q_o, .ref q_t, .int o_reached])), (q_o, .inl (cc.2.1, l_o, .inl g_o)), (q_t, .inl (cc.2.1, 182, .inl g_t))] : va_W) ++ px_cp cc ho cm np ns hm pa sa mm12 pp ss) H := px_csP rfl hp127 (by decide) rfl (px_hr2 _ _ _) emm12 hP
            have hD : va_D A (([(ho, .inr (1, [.ref q_o, .ref q_t, .int o_reached])), (q_o, .inl (cc.2.1, l_o, .inl g_o)), (q_t, .inl (cc.2.1, 182, .inl g_t))] : va_W) ++ px_cp cc ho cm np ns hm pa sa mm12 pp ss) := px_csD rfl hp127 (by decide) rfl (px_hr2 _ _ _) emm12 hD
            have hw := hw mm12 emm12
            obtain ⟨z13, ez13⟩ : ∃ y : Int32, y = x8 + 1 := ⟨_, rfl⟩
            have hw := hw z13 ez13
            refine lv_iinc (v := z13) (lv' := [(8, .int z13), (0, .ref (hm a0x)), (1, .ref (hm a1x)), (2, .int x2), (3, .int x3), (4, .int x4), (5, .int x5), (6, .null), (7, .null), (9, .int x9)]) hx hb px_d259_128 hl (k := 8) rfl (by rw [ez13]; rfl) (by decide) rfl (fun ls hl => ?_)
            exact S131 x2 x3 x4 x5 none none z13 x9 q_o l_o o_reached g_o g_t mm12 np pa pp kc ks H locs ls hkc hks hP hD hS (lv_sub hl [1, 2, 3, 4, 5, 6, 7, 8, 0, 9] rfl) hw
          | some a105_9 =>
            have hw := hw.2 a105_9 rfl
            have hP : va_P (dC, dI) vwCl (([(ho, .inr (1, [.ref q_o, .ref q_t, .int o_reached])), (q_o, .inl (cc.2.1, l_o, .inl g_o)), (q_t, .inl (cc.2.1, 182, .inl g_t))] : va_W) ++ px_cp cc ho cm np ns hm pa sa mm pp ss) H := hP
            have hD : va_D A (([(ho, .inr (1, [.ref q_o, .ref q_t, .int o_reached])), (q_o, .inl (cc.2.1, l_o, .inl g_o)), (q_t, .inl (cc.2.1, 182, .inl g_t))] : va_W) ++ px_cp cc ho cm np ns hm pa sa mm pp ss) := hD
            have hl : lv_has ls 10 [(0, .ref (hm a0x)), (1, .ref (hm a1x)), (2, .int x2), (3, .int x3), (4, .int x4), (5, .int x5), (6, .null), (7, .ref (pa a105_9)), (8, .int x8), (9, .int x9)] := hl
            refine W.eq (g2 := F0 m 105 ls []) rfl ?_
            refine lv_aload_n hx hb px_d259_105 rfl (lv_at hl 0 rfl) ?_
            obtain ⟨hp106, hw⟩ := hw
            refine va_get (D := (dC, dI)) (ci := 10) (v := .ref ((mm a0x).1 1)) (C := "MatroidDesk$Matroid") (T := px_T10) (N := 15) hx hb htw px_in10 hown hK hP (3 + (13 * a0x + 0)) (px_cg0 rfl hp106) rfl 1 (by decide) (htw _ px_w1000) (fun _ h9 => h9) rfl px_d259_106 ?_
            refine lv_iload hx hb px_d259_109 (lv_at hl 8 rfl) ?_
            refine lv_aload hx hb px_d259_111 (lv_at hl 7 rfl) ?_
            obtain ⟨hp113, hw⟩ := hw
            obtain ⟨hi113, hw⟩ := hw
            obtain ⟨hrr113, hw⟩ := hw
            obtain ⟨mm14, emm14⟩ : ∃ z : Nat → px_MR, z = va_up mm a0x ((mm a0x).1, (mm a0x).2.1, (mm a0x).2.2.1, (mm a0x).2.2.2.1, (mm a0x).2.2.2.2.1, va_up (mm a0x).2.2.2.2.2 (Int32.toNatClampNeg x8) (some a105_9)) := ⟨_, rfl⟩
            refine va_astq hx hb hK hP hD hS (3 + (13 * a0x + 1)) 3 (3 + (13 * cm + a105_9)) 11 (px_cg1 rfl hp113) rfl (px_gp rfl hrr113) rfl hi113 px_d259_113 (fun H locs hP hD hS => ?_)
            have hP : va_P (dC, dI) vwCl (([(ho, .inr (1, [.ref q_o, .ref q_t, .int o_reached])), (q_o, .inl (cc.2.1, l_o, .inl g_o)), (q_t, .inl (cc.2.1, 182, .inl g_t))] : va_W) ++ px_cp cc ho cm np ns hm pa sa mm14 pp ss) H := px_csP rfl hp113 (by decide) (px_hcP _ _ _ _) (px_hrP _ _ _) emm14 hP
            have hD : va_D A (([(ho, .inr (1, [.ref q_o, .ref q_t, .int o_reached])), (q_o, .inl (cc.2.1, l_o, .inl g_o)), (q_t, .inl (cc.2.1, 182, .inl g_t))] : va_W) ++ px_cp cc ho cm np ns hm pa sa mm14 pp ss) := px_csD rfl hp113 (by decide) (px_hcP _ _ _ _) (px_hrP _ _ _) emm14 hD
            have hw := hw mm14 emm14
            refine lv_aload_n hx hb px_d259_114 rfl (lv_at hl 0 rfl) ?_
            obtain ⟨hp115, hw⟩ := hw
            refine va_get (D := (dC, dI)) (ci := 10) (v := .ref ((mm14 a0x).1 2)) (C := "MatroidDesk$Matroid") (T := px_T10) (N := 15) hx hb htw px_in10 hown hK hP (3 + (13 * a0x + 0)) (px_cg0 rfl hp115) rfl 2 (by decide) (htw _ px_w1001) (fun _ h9 => h9) rfl px_d259_115 ?_
            refine lv_iload hx hb px_d259_118 (lv_at hl 8 rfl) ?_
            refine lv_aload_n hx hb px_d259_120 rfl (lv_at hl 1 rfl) ?_
            obtain ⟨hp121, hw⟩ := hw
            refine va_get (D := (dC, dI)) (ci := 10) (v := .ref ((mm14 a1x).1 2)) (C := "MatroidDesk$Matroid") (T := px_T10) (N := 15) hx hb htw px_in10 hown hK hP (3 + (13 * a1x + 0)) (px_cg0 rfl hp121) rfl 2 (by decide) (htw _ px_w1001) (fun _ h9 => h9) rfl px_d259_121 ?_
            refine lv_iload hx hb px_d259_124 (lv_at hl 9 rfl) ?_
            obtain ⟨hp126, hw⟩ := hw
            obtain ⟨hi126, hw⟩ := hw
            refine va_iald hx hb hK hP (3 + (13 * a1x + 2)) 0 (px_cg2 rfl hp126) rfl hi126 px_d259_126 ?_
            refine lv_topi (fun z15 ez15 => ?_)
            have hw := hw z15 ez15
            obtain ⟨hp127, hw⟩ := hw
            obtain ⟨hi127, hw⟩ := hw
            obtain ⟨mm16, emm16⟩ : ∃ z : Nat → px_MR, z = va_up mm14 a0x ((mm14 a0x).1, (mm14 a0x).2.1, (mm14 a0x).2.2.1, va_up (mm14 a0x).2.2.2.1 2 (upd ((mm14 a0x).2.2.2.1 2) (Int32.toNatClampNeg x8) z15), (mm14 a0x).2.2.2.2) := ⟨_, rfl⟩
            refine va_iast hx hb hK hP hD hS (3 + (13 * a0x + 2)) 0 (px_cg2 rfl hp127) rfl hi127 px_d259_127 (fun H locs hP hD hS => ?_)
            have hP : va_P (dC, dI) vwCl (([(ho, .inr (1, [.ref q_o, .ref q_t, .int o_reached])), (q_o, .inl (cc.2.1, l_o, .inl g_o)), (q_t, .inl (cc.2.1, 182, .inl g_t))] : va_W) ++ px_cp cc ho cm np ns hm pa sa mm16 pp ss) H := px_csP rfl hp127 (by decide) rfl (px_hr2 _ _ _) emm16 hP
            have hD : va_D A (([(ho, .inr (1, [.ref q_o, .ref q_t, .int o_reached])), (q_o, .inl (cc.2.1, l_o, .inl g_o)), (q_t, .inl (cc.2.1, 182, .inl g_t))] : va_W) ++ px_cp cc ho cm np ns hm pa sa mm16 pp ss) := px_csD rfl hp127 (by decide) rfl (px_hr2 _ _ _) emm16 hD
            have hw := hw mm16 emm16
            obtain ⟨z17, ez17⟩ : ∃ y : Int32, y = x8 + 1 := ⟨_, rfl⟩
            have hw := hw z17 ez17
            refine lv_iinc (v := z17) (lv' := [(8, .int z17), (0, .ref (hm a0x)), (1, .ref (hm a1x)), (2, .int x2), (3, .int x3), (4, .int x4), (5, .int x5), (6, .null), (7, .ref (pa a105_9)), (9, .int x9)]) hx hb px_d259_128 hl (k := 8) rfl (by rw [ez17]; rfl) (by decide) rfl (fun ls hl => ?_)
            exact S131 x2 x3 x4 x5 none (some a105_9) z17 x9 q_o l_o o_reached g_o g_t mm16 np pa pp kc ks H locs ls hkc hks hP hD hS (lv_sub hl [1, 2, 3, 4, 5, 6, 7, 8, 0, 9] rfl) hw
        | some a105_8 =>
          have hw := hw.2 a105_8 rfl
          have hP : va_P (dC, dI) vwCl (([(ho, .inr (1, [.ref q_o, .ref q_t, .int o_reached])), (q_o, .inl (cc.2.1, l_o, .inl g_o)), (q_t, .inl (cc.2.1, 182, .inl g_t))] : va_W) ++ px_cp cc ho cm np ns hm pa sa mm pp ss) H := hP
          have hD : va_D A (([(ho, .inr (1, [.ref q_o, .ref q_t, .int o_reached])), (q_o, .inl (cc.2.1, l_o, .inl g_o)), (q_t, .inl (cc.2.1, 182, .inl g_t))] : va_W) ++ px_cp cc ho cm np ns hm pa sa mm pp ss) := hD
          have hl : lv_has ls 10 [(0, .ref (hm a0x)), (1, .ref (hm a1x)), (2, .int x2), (3, .int x3), (4, .int x4), (5, .int x5), (6, .ref (pa a105_8)), (7, va_rf (Option.map pa x7)), (8, .int x8), (9, .int x9)] := hl
          refine W.eq (g2 := F0 m 105 ls []) rfl ?_
          cases x7 with
          | none =>
            have hw := hw.1 rfl
            have hP : va_P (dC, dI) vwCl (([(ho, .inr (1, [.ref q_o, .ref q_t, .int o_reached])), (q_o, .inl (cc.2.1, l_o, .inl g_o)), (q_t, .inl (cc.2.1, 182, .inl g_t))] : va_W) ++ px_cp cc ho cm np ns hm pa sa mm pp ss) H := hP
            have hD : va_D A (([(ho, .inr (1, [.ref q_o, .ref q_t, .int o_reached])), (q_o, .inl (cc.2.1, l_o, .inl g_o)), (q_t, .inl (cc.2.1, 182, .inl g_t))] : va_W) ++ px_cp cc ho cm np ns hm pa sa mm pp ss) := hD
            have hl : lv_has ls 10 [(0, .ref (hm a0x)), (1, .ref (hm a1x)), (2, .int x2), (3, .int x3), (4, .int x4), (5, .int x5), (6, .ref (pa a105_8)), (7, .null), (8, .int x8), (9, .int x9)] := hl
            refine W.eq (g2 := F0 m 105 ls []) rfl ?_
            refine lv_aload_n hx hb px_d259_105 rfl (lv_at hl 0 rfl) ?_
            obtain ⟨hp106, hw⟩ := hw
            refine va_get (D := (dC, dI)) (ci := 10) (v := .ref ((mm a0x).1 1)) (C := "MatroidDesk$Matroid") (T := px_T10) (N := 15) hx hb htw px_in10 hown hK hP (3 + (13 * a0x + 0)) (px_cg0 rfl hp106) rfl 1 (by decide) (htw _ px_w1000) (fun _ h9 => h9) rfl px_d259_106 ?_
            refine lv_iload hx hb px_d259_109 (lv_at hl 8 rfl) ?_
            refine lv_aloadN hx hb px_d259_111 (lv_at hl 7 rfl) ?_
            obtain ⟨hp113, hw⟩ := hw
            obtain ⟨hi113, hw⟩ := hw
            obtain ⟨mm19, emm19⟩ : ∃ z : Nat → px_MR, z = va_up mm a0x ((mm a0x).1, (mm a0x).2.1, (mm a0x).2.2.1, (mm a0x).2.2.2.1, (mm a0x).2.2.2.2.1, va_up (mm a0x).2.2.2.2.2 (Int32.toNatClampNeg x8) none) := ⟨_, rfl⟩
            refine va_astqN hx hb hK hP hD hS (3 + (13 * a0x + 1)) 3 (px_cg1 rfl hp113) rfl hi113 px_d259_113 (fun H locs hP hD hS => ?_)
            have hP : va_P (dC, dI) vwCl (([(ho, .inr (1, [.ref q_o, .ref q_t, .int o_reached])), (q_o, .inl (cc.2.1, l_o, .inl g_o)), (q_t, .inl (cc.2.1, 182, .inl g_t))] : va_W) ++ px_cp cc ho cm np ns hm pa sa mm19 pp ss) H := px_csP rfl hp113 (by decide) (px_hcPN _ _ _) (px_hrP _ _ _) emm19 hP
            have hD : va_D A (([(ho, .inr (1, [.ref q_o, .ref q_t, .int o_reached])), (q_o, .inl (cc.2.1, l_o, .inl g_o)), (q_t, .inl (cc.2.1, 182, .inl g_t))] : va_W) ++ px_cp cc ho cm np ns hm pa sa mm19 pp ss) := px_csD rfl hp113 (by decide) (px_hcPN _ _ _) (px_hrP _ _ _) emm19 hD
            have hw := hw mm19 emm19
            refine lv_aload_n hx hb px_d259_114 rfl (lv_at hl 0 rfl) ?_
            obtain ⟨hp115, hw⟩ := hw
            refine va_get (D := (dC, dI)) (ci := 10) (v := .ref ((mm19 a0x).1 2)) (C := "MatroidDesk$Matroid") (T := px_T10) (N := 15) hx hb htw px_in10 hown hK hP (3 + (13 * a0x + 0)) (px_cg0 rfl hp115) rfl 2 (by decide) (htw _ px_w1001) (fun _ h9 => h9) rfl px_d259_115 ?_
            refine lv_iload hx hb px_d259_118 (lv_at hl 8 rfl) ?_
            refine lv_aload_n hx hb px_d259_120 rfl (lv_at hl 1 rfl) ?_
            obtain ⟨hp121, hw⟩ := hw
            refine va_get (D := (dC, dI)) (ci := 10) (v := .ref ((mm19 a1x).1 2)) (C := "MatroidDesk$Matroid") (T := px_T10) (N := 15) hx hb htw px_in10 hown hK hP (3 + (13 * a1x + 0)) (px_cg0 rfl hp121) rfl 2 (by decide) (htw _ px_w1001) (fun _ h9 => h9) rfl px_d259_121 ?_
            refine lv_iload hx hb px_d259_124 (lv_at hl 9 rfl) ?_
            obtain ⟨hp126, hw⟩ := hw
            obtain ⟨hi126, hw⟩ := hw
            refine va_iald hx hb hK hP (3 + (13 * a1x + 2)) 0 (px_cg2 rfl hp126) rfl hi126 px_d259_126 ?_
            refine lv_topi (fun z20 ez20 => ?_)
            have hw := hw z20 ez20
            obtain ⟨hp127, hw⟩ := hw
            obtain ⟨hi127, hw⟩ := hw
            obtain ⟨mm21, emm21⟩ : ∃ z : Nat → px_MR, z = va_up mm19 a0x ((mm19 a0x).1, (mm19 a0x).2.1, (mm19 a0x).2.2.1, va_up (mm19 a0x).2.2.2.1 2 (upd ((mm19 a0x).2.2.2.1 2) (Int32.toNatClampNeg x8) z20), (mm19 a0x).2.2.2.2) := ⟨_, rfl⟩
            refine va_iast hx hb hK hP hD hS (3 + (13 * a0x + 2)) 0 (px_cg2 rfl hp127) rfl hi127 px_d259_127 (fun H locs hP hD hS => ?_)
            have hP : va_P (dC, dI) vwCl (([(ho, .inr (1, [.ref q_o, .ref q_t, .int o_reached])), (q_o, .inl (cc.2.1, l_o, .inl g_o)), (q_t, .inl (cc.2.1, 182, .inl g_t))] : va_W) ++ px_cp cc ho cm np ns hm pa sa mm21 pp ss) H := px_csP rfl hp127 (by decide) rfl (px_hr2 _ _ _) emm21 hP
            have hD : va_D A (([(ho, .inr (1, [.ref q_o, .ref q_t, .int o_reached])), (q_o, .inl (cc.2.1, l_o, .inl g_o)), (q_t, .inl (cc.2.1, 182, .inl g_t))] : va_W) ++ px_cp cc ho cm np ns hm pa sa mm21 pp ss) := px_csD rfl hp127 (by decide) rfl (px_hr2 _ _ _) emm21 hD
            have hw := hw mm21 emm21
            obtain ⟨z22, ez22⟩ : ∃ y : Int32, y = x8 + 1 := ⟨_, rfl⟩
            have hw := hw z22 ez22
            refine lv_iinc (v := z22) (lv' := [(8, .int z22), (0, .ref (hm a0x)), (1, .ref (hm a1x)), (2, .int x2), (3, .int x3), (4, .int x4), (5, .int x5), (6, .ref (pa a105_8)), (7, .null), (9, .int x9)]) hx hb px_d259_128 hl (k := 8) rfl (by rw [ez22]; rfl) (by decide) rfl (fun ls hl => ?_)
            exact S131 x2 x3 x4 x5 (some a105_8) none z22 x9 q_o l_o o_reached g_o g_t mm21 np pa pp kc ks H locs ls hkc hks hP hD hS (lv_sub hl [1, 2, 3, 4, 5, 6, 7, 8, 0, 9] rfl) hw
          | some a105_18 =>
            have hw := hw.2 a105_18 rfl
            have hP : va_P (dC, dI) vwCl (([(ho, .inr (1, [.ref q_o, .ref q_t, .int o_reached])), (q_o, .inl (cc.2.1, l_o, .inl g_o)), (q_t, .inl (cc.2.1, 182, .inl g_t))] : va_W) ++ px_cp cc ho cm np ns hm pa sa mm pp ss) H := hP
            have hD : va_D A (([(ho, .inr (1, [.ref q_o, .ref q_t, .int o_reached])), (q_o, .inl (cc.2.1, l_o, .inl g_o)), (q_t, .inl (cc.2.1, 182, .inl g_t))] : va_W) ++ px_cp cc ho cm np ns hm pa sa mm pp ss) := hD
            have hl : lv_has ls 10 [(0, .ref (hm a0x)), (1, .ref (hm a1x)), (2, .int x2), (3, .int x3), (4, .int x4), (5, .int x5), (6, .ref (pa a105_8)), (7, .ref (pa a105_18)), (8, .int x8), (9, .int x9)] := hl
            refine W.eq (g2 := F0 m 105 ls []) rfl ?_
            refine lv_aload_n hx hb px_d259_105 rfl (lv_at hl 0 rfl) ?_
            obtain ⟨hp106, hw⟩ := hw
            refine va_get (D := (dC, dI)) (ci := 10) (v := .ref ((mm a0x).1 1)) (C := "MatroidDesk$Matroid") (T := px_T10) (N := 15) hx hb htw px_in10 hown hK hP (3 + (13 * a0x + 0)) (px_cg0 rfl hp106) rfl 1 (by decide) (htw _ px_w1000) (fun _ h9 => h9) rfl px_d259_106 ?_
            refine lv_iload hx hb px_d259_109 (lv_at hl 8 rfl) ?_
            refine lv_aload hx hb px_d259_111 (lv_at hl 7 rfl) ?_
            obtain ⟨hp113, hw⟩ := hw
            obtain ⟨hi113, hw⟩ := hw
            obtain ⟨hrr113, hw⟩ := hw
            obtain ⟨mm23, emm23⟩ : ∃ z : Nat → px_MR, z = va_up mm a0x ((mm a0x).1, (mm a0x).2.1, (mm a0x).2.2.1, (mm a0x).2.2.2.1, (mm a0x).2.2.2.2.1, va_up (mm a0x).2.2.2.2.2 (Int32.toNatClampNeg x8) (some a105_18)) := ⟨_, rfl⟩
            refine va_astq hx hb hK hP hD hS (3 + (13 * a0x + 1)) 3 (3 + (13 * cm + a105_18)) 11 (px_cg1 rfl hp113) rfl (px_gp rfl hrr113) rfl hi113 px_d259_113 (fun H locs hP hD hS => ?_)
            have hP : va_P (dC, dI) vwCl (([(ho, .inr (1, [.ref q_o, .ref q_t, .int o_reached])), (q_o, .inl (cc.2.1, l_o, .inl g_o)), (q_t, .inl (cc.2.1, 182, .inl g_t))] : va_W) ++ px_cp cc ho cm np ns hm pa sa mm23 pp ss) H := px_csP rfl hp113 (by decide) (px_hcP _ _ _ _) (px_hrP _ _ _) emm23 hP
            have hD : va_D A (([(ho, .inr (1, [.ref q_o, .ref q_t, .int o_reached])), (q_o, .inl (cc.2.1, l_o, .inl g_o)), (q_t, .inl (cc.2.1, 182, .inl g_t))] : va_W) ++ px_cp cc ho cm np ns hm pa sa mm23 pp ss) := px_csD rfl hp113 (by decide) (px_hcP _ _ _ _) (px_hrP _ _ _) emm23 hD
            have hw := hw mm23 emm23
            refine lv_aload_n hx hb px_d259_114 rfl (lv_at hl 0 rfl) ?_
            obtain ⟨hp115, hw⟩ := hw
            refine va_get (D := (dC, dI)) (ci := 10) (v := .ref ((mm23 a0x).1 2)) (C := "MatroidDesk$Matroid") (T := px_T10) (N := 15) hx hb htw px_in10 hown hK hP (3 + (13 * a0x + 0)) (px_cg0 rfl hp115) rfl 2 (by decide) (htw _ px_w1001) (fun _ h9 => h9) rfl px_d259_115 ?_
            refine lv_iload hx hb px_d259_118 (lv_at hl 8 rfl) ?_
            refine lv_aload_n hx hb px_d259_120 rfl (lv_at hl 1 rfl) ?_
            obtain ⟨hp121, hw⟩ := hw
            refine va_get (D := (dC, dI)) (ci := 10) (v := .ref ((mm23 a1x).1 2)) (C := "MatroidDesk$Matroid") (T := px_T10) (N := 15) hx hb htw px_in10 hown hK hP (3 + (13 * a1x + 0)) (px_cg0 rfl hp121) rfl 2 (by decide) (htw _ px_w1001) (fun _ h9 => h9) rfl px_d259_121 ?_
            refine lv_iload hx hb px_d259_124 (lv_at hl 9 rfl) ?_
            obtain ⟨hp126, hw⟩ := hw
            obtain ⟨hi126, hw⟩ := hw
            refine va_iald hx hb hK hP (3 + (13 * a1x + 2)) 0 (px_cg2 rfl hp126) rfl hi126 px_d259_126 ?_
            refine lv_topi (fun z24 ez24 => ?_)
            have hw := hw z24 ez24
            obtain ⟨hp127, hw⟩ := hw
            obtain ⟨hi127, hw⟩ := hw
            obtain ⟨mm25, emm25⟩ : ∃ z : Nat → px_MR, z = va_up mm23 a0x ((mm23 a0x).1, (mm23 a0x).2.1, (mm23 a0x).2.2.1, va_up (mm23 a0x).2.2.2.1 2 (upd ((mm23 a0x).2.2.2.1 2) (Int32.toNatClampNeg x8) z24), (mm23 a0x).2.2.2.2) := ⟨_, rfl⟩
            refine va_iast hx hb hK hP hD hS (3 + (13 * a0x + 2)) 0 (px_cg2 rfl hp127) rfl hi127 px_d259_127 (fun H locs hP hD hS => ?_)
            have hP : va_P (dC, dI) vwCl (([(ho, .inr (1, [.ref q_o, .ref q_t, .int o_reached])), (q_o, .inl (cc.2.1, l_o, .inl g_o)), (q_t, .inl (cc.2.1, 182, .inl g_t))] : va_W) ++ px_cp cc ho cm np ns hm pa sa mm25 pp ss) H := px_csP rfl hp127 (by decide) rfl (px_hr2 _ _ _) emm25 hP
            have hD : va_D A (([(ho, .inr (1, [.ref q_o, .ref q_t, .int o_reached])), (q_o, .inl (cc.2.1, l_o, .inl g_o)), (q_t, .inl (cc.2.1, 182, .inl g_t))] : va_W) ++ px_cp cc ho cm np ns hm pa sa mm25 pp ss) := px_csD rfl hp127 (by decide) rfl (px_hr2 _ _ _) emm25 hD
            have hw := hw mm25 emm25
            obtain ⟨z26, ez26⟩ : ∃ y : Int32, y = x8 + 1 := ⟨_, rfl⟩
            have hw := hw z26 ez26
            refine lv_iinc (v := z26) (lv' := [(8, .int z26), (0, .ref (hm a0x)), (1, .ref (hm a1x)), (2, .int x2), (3, .int x3), (4, .int x4), (5, .int x5), (6, .ref (pa a105_8)), (7, .ref (pa a105_18)), (9, .int x9)]) hx hb px_d259_128 hl (k := 8) rfl (by rw [ez26]; rfl) (by decide) rfl (fun ls hl => ?_)
            exact S131 x2 x3 x4 x5 (some a105_8) (some a105_18) z26 x9 q_o l_o o_reached g_o g_t mm25 np pa pp kc ks H locs ls hkc hks hP hD hS (lv_sub hl [1, 2, 3, 4, 5, 6, 7, 8, 0, 9] rfl) hw
      intro x2 x3 x4 x5 x6 x7 x8 x9 q_o l_o o_reached g_o g_t mm np pa pp kc ks H locs ls hkc hks hP hD hS hl hw
      unfold w259_L12 at hw
      cases x6 with
      | none =>
        have hw := hw.1 rfl
        have hP : va_P (dC, dI) vwCl (([(ho, .inr (1, [.ref q_o, .ref q_t, .int o_reached])), (q_o, .inl (cc.2.1, l_o, .inl g_o)), (q_t, .inl (cc.2.1, 182, .inl g_t))] : va_W) ++ px_cp cc ho cm np ns hm pa sa mm pp ss) H := hP
        have hD : va_D A (([(ho, .inr (1, [.ref q_o, .ref q_t, .int o_reached])), (q_o, .inl (cc.2.1, l_o, .inl g_o)), (q_t, .inl (cc.2.1, 182, .inl g_t))] : va_W) ++ px_cp cc ho cm np ns hm pa sa mm pp ss) := hD
        have hl : lv_has ls 10 [(0, .ref (hm a0x)), (1, .ref (hm a1x)), (2, .int x2), (3, .int x3), (4, .int x4), (5, .int x5), (6, .null), (7, va_rf (Option.map pa x7)), (8, .int x8), (9, .int x9)] := hl
        refine W.eq (g2 := F0 m 12 ls []) rfl ?_
        cases x7 with
        | none =>
          have hw := hw.1 rfl
          have hP : va_P (dC, dI) vwCl (([(ho, .inr (1, [.ref q_o, .ref q_t, .int o_reached])), (q_o, .inl (cc.2.1, l_o, .inl g_o)), (q_t, .inl (cc.2.1, 182, .inl g_t))] : va_W) ++ px_cp cc ho cm np ns hm pa sa mm pp ss) H := hP
          have hD : va_D A (([(ho, .inr (1, [.ref q_o, .ref q_t, .int o_reached])), (q_o, .inl (cc.2.1, l_o, .inl g_o)), (q_t, .inl (cc.2.1, 182, .inl g_t))] : va_W) ++ px_cp cc ho cm np ns hm pa sa mm pp ss) := hD
          have hl : lv_has ls 10 [(0, .ref (hm a0x)), (1, .ref (hm a1x)), (2, .int x2), (3, .int x3), (4, .int x4), (5, .int x5), (6, .null), (7, .null), (8, .int x8), (9, .int x9)] := hl
          refine W.eq (g2 := F0 m 12 ls []) rfl ?_
          refine lv_iload hx hb px_d259_12 (lv_at hl 9 rfl) ?_
          refine lv_aload_n hx hb px_d259_14 rfl (lv_at hl 1 rfl) ?_
          obtain ⟨hp15, hw⟩ := hw
          refine va_get (D := (dC, dI)) (ci := 10) (v := .int ((mm a1x).2.1 13)) (C := "MatroidDesk$Matroid") (T := px_T10) (N := 15) hx hb htw px_in10 hown hK hP (3 + (13 * a1x + 0)) (px_cg0 rfl hp15) rfl 13 (by decide) (htw _ px_w1264) (fun _ h9 => h9) rfl px_d259_15 ?_
          refine lv_icmp_ge (tgt := 137) hx hb px_d259_18 (by decide) (fun c18 => ?_) (fun c18 => ?_)
          · have hw := hw.1 c18
            refine W.widen (k := mc) (n := ms) hkc hks ?_
            rw [← hQ]
            exact W.vret hx hb hr (fun t ht hW => ⟨⟨(q_o, l_o, o_reached, g_o, g_t, mm, np, pa, pp), rfl, hw, by rw [ht]; exact hP, va_K.moved hW.alike hK, hD⟩, hS.F ht⟩) hS.2.2 px_d259_137
          · have hw := hw.2 c18
            refine lv_iload_n hx hb px_d259_21 rfl (lv_at hl 3 rfl) ?_
            refine lv_iload hx hb px_d259_22 (lv_at hl 9 rfl) ?_
            refine lv_ishr hx hb px_d259_24 ?_
            refine lv_iconst (v := 1) hx hb px_d259_25 (by decide) ?_
            refine lv_iand hx hb px_d259_26 ?_
            refine lv_if_ne (tgt := 131) hx hb px_d259_27 (by decide) (fun c27 => ?_) (fun c27 => ?_)
            · have hw := hw.1 c27
              exact S131 x2 x3 x4 x5 none none x8 x9 q_o l_o o_reached g_o g_t mm np pa pp kc ks H locs ls hkc hks hP hD hS (lv_sub hl [0, 1, 2, 3, 4, 5, 6, 7, 8, 9] rfl) hw
            · have hw := hw.2 c27
              refine lv_aload_n hx hb px_d259_30 rfl (lv_at hl 1 rfl) ?_
              obtain ⟨hp31, hw⟩ := hw
              refine va_get (D := (dC, dI)) (ci := 10) (v := .ref ((mm a1x).1 1)) (C := "MatroidDesk$Matroid") (T := px_T10) (N := 15) hx hb htw px_in10 hown hK hP (3 + (13 * a1x + 0)) (px_cg0 rfl hp31) rfl 1 (by decide) (htw _ px_w1000) (fun _ h9 => h9) rfl px_d259_31 ?_
              refine lv_iload hx hb px_d259_34 (lv_at hl 9 rfl) ?_
              obtain ⟨hp36, hw⟩ := hw
              obtain ⟨hi36, hw⟩ := hw
              refine va_aldq hx hb hK hP (3 + (13 * a1x + 1)) 3 (px_cg1 rfl hp36) rfl hi36 px_d259_36 ?_
              refine W.eq (g2 := F0 m 37 ls (va_rf (Option.map pa ((mm a1x).2.2.2.2.2 (Int32.toNatClampNeg x9))) :: [])) rfl ?_
              cases hz37_29 : (mm a1x).2.2.2.2.2 (Int32.toNatClampNeg x9) with
              | none =>
                have hw := hw.1 hz37_29
                refine W.eq (g2 := F0 m 37 ls (.null :: [])) rfl ?_
                refine lv_ifnullN (tgt := 105) hx hb px_d259_37 (by decide) ?_
                exact S105 x2 x3 x4 x5 none none x8 x9 q_o l_o o_reached g_o g_t mm np pa pp kc ks H locs ls hkc hks hP hD hS (lv_sub hl [0, 1, 2, 3, 4, 5, 6, 7, 8, 9] rfl) hw
              | some k37_29 =>
                have hw := hw.2 k37_29 hz37_29
                refine W.eq (g2 := F0 m 37 ls (.ref (pa k37_29) :: [])) rfl ?_
                refine lv_ifnull hx hb px_d259_37 ?_
                refine lv_aload_n hx hb px_d259_40 rfl (lv_at hl 1 rfl) ?_
                obtain ⟨hp41, hw⟩ := hw
                refine va_get (D := (dC, dI)) (ci := 10) (v := .ref ((mm a1x).1 1)) (C := "MatroidDesk$Matroid") (T := px_T10) (N := 15) hx hb htw px_in10 hown hK hP (3 + (13 * a1x + 0)) (px_cg0 rfl hp41) rfl 1 (by decide) (htw _ px_w1000) (fun _ h9 => h9) rfl px_d259_41 ?_
                refine lv_iload hx hb px_d259_44 (lv_at hl 9 rfl) ?_
                obtain ⟨hp46, hw⟩ := hw
                obtain ⟨hi46, hw⟩ := hw
                refine va_aldq hx hb hK hP (3 + (13 * a1x + 1)) 3 (px_cg1 rfl hp46) rfl hi46 px_d259_46 ?_
                refine W.eq (g2 := F0 m 47 ls (va_rf (Option.map pa ((mm a1x).2.2.2.2.2 (Int32.toNatClampNeg x9))) :: [])) rfl ?_
                cases hz47_30 : (mm a1x).2.2.2.2.2 (Int32.toNatClampNeg x9) with
                | none =>
                  have hw := hw.1 hz47_30
                  refine W.eq (g2 := F0 m 47 ls (.null :: [])) rfl ?_
                  refine lv_aloadN hx hb px_d259_47 (lv_at hl 6 rfl) ?_
                  refine lv_acmp_eq (rx := none) (ry := none) (tgt := 105) hx hb px_d259_49 (by decide) (fun _ => ?_) (fun h9 => absurd rfl h9)
                  exact S105 x2 x3 x4 x5 none none x8 x9 q_o l_o o_reached g_o g_t mm np pa pp kc ks H locs ls hkc hks hP hD hS (lv_sub hl [0, 1, 2, 3, 4, 5, 6, 7, 8, 9] rfl) hw
                | some k47_30 =>
                  have hw := hw.2 k47_30 hz47_30
                  refine W.eq (g2 := F0 m 47 ls (.ref (pa k47_30) :: [])) rfl ?_
                  refine lv_aloadN hx hb px_d259_47 (lv_at hl 6 rfl) ?_
                  refine lv_acmp_eq (rx := some (pa k47_30)) (ry := none) (tgt := 105) hx hb px_d259_49 (by decide) (fun h9 => absurd h9 (by simp)) (fun _ => ?_)
                  refine lv_aload_n hx hb px_d259_52 rfl (lv_at hl 1 rfl) ?_
                  obtain ⟨hp53, hw⟩ := hw
                  refine va_get (D := (dC, dI)) (ci := 10) (v := .ref ((mm a1x).1 1)) (C := "MatroidDesk$Matroid") (T := px_T10) (N := 15) hx hb htw px_in10 hown hK hP (3 + (13 * a1x + 0)) (px_cg0 rfl hp53) rfl 1 (by decide) (htw _ px_w1000) (fun _ h9 => h9) rfl px_d259_53 ?_
                  refine lv_iload hx hb px_d259_56 (lv_at hl 9 rfl) ?_
                  obtain ⟨hp58, hw⟩ := hw
                  obtain ⟨hi58, hw⟩ := hw
                  refine va_aldq hx hb hK hP (3 + (13 * a1x + 1)) 3 (px_cg1 rfl hp58) rfl hi58 px_d259_58 ?_
                  refine W.eq (g2 := F0 m 59 ls (va_rf (Option.map pa ((mm a1x).2.2.2.2.2 (Int32.toNatClampNeg x9))) :: [])) rfl ?_
                  cases hz59_31 : (mm a1x).2.2.2.2.2 (Int32.toNatClampNeg x9) with
                  | none =>
                    have hw := hw.1 hz59_31
                    refine W.eq (g2 := F0 m 59 ls (.null :: [])) rfl ?_
                    refine lv_astoreN (lv' := [(6, .null), (0, .ref (hm a0x)), (1, .ref (hm a1x)), (2, .int x2), (3, .int x3), (4, .int x4), (5, .int x5), (7, .null), (8, .int x8), (9, .int x9)]) hx hb px_d259_59 hl (by decide) rfl (fun ls hl => ?_)
                    obtain ⟨hc61_32, hs61_32, hw⟩ := hw
                    refine va_new (ci := 11) (fs := [.null, .int 0, .int 0]) (C := "MatroidDesk$Part") (T := px_T11) (N := 3) hx hb htw px_in11 px_ty11 px_tyok11 hown (htw _ px_w999) (htw _ px_w172) (htw _ px_w171) hK hP hD hS hA rfl px_df11 hc61_32 hs61_32 px_d259_61 (fun q61_32 H hP hD hS => ?_)
                    have hw := hw q61_32
                    have hP := hP.swap
                    have hD := hD.swap
                    have hP : va_P (dC, dI) vwCl (([(ho, .inr (1, [.ref q_o, .ref q_t, .int o_reached])), (q_o, .inl (cc.2.1, l_o, .inl g_o)), (q_t, .inl (cc.2.1, 182, .inl g_t)), (q61_32, .inr (11, [.null, .int 0, .int 0]))] : va_W) ++ px_cp cc ho cm np ns hm pa sa mm pp ss) H := hP
                    have hD : va_D A (([(ho, .inr (1, [.ref q_o, .ref q_t, .int o_reached])), (q_o, .inl (cc.2.1, l_o, .inl g_o)), (q_t, .inl (cc.2.1, 182, .inl g_t)), (q61_32, .inr (11, [.null, .int 0, .int 0]))] : va_W) ++ px_cp cc ho cm np ns hm pa sa mm pp ss) := hD
                    refine lv_dup hx hb px_d259_64 rfl ?_
                    refine lv_aloadN hx hb px_d259_65 (lv_at hl 0 rfl) ?_
                    exact False.elim hw
                  | some k59_31 =>
                    have hw := hw.2 k59_31 hz59_31
                    refine W.eq (g2 := F0 m 59 ls (.ref (pa k59_31) :: [])) rfl ?_
                    refine lv_astore (lv' := [(6, .ref (pa k59_31)), (0, .ref (hm a0x)), (1, .ref (hm a1x)), (2, .int x2), (3, .int x3), (4, .int x4), (5, .int x5), (7, .null), (8, .int x8), (9, .int x9)]) hx hb px_d259_59 hl (by decide) rfl (fun ls hl => ?_)
                    obtain ⟨hc61_33, hs61_33, hw⟩ := hw
                    refine va_new (ci := 11) (fs := [.null, .int 0, .int 0]) (C := "MatroidDesk$Part") (T := px_T11) (N := 3) hx hb htw px_in11 px_ty11 px_tyok11 hown (htw _ px_w999) (htw _ px_w172) (htw _ px_w171) hK hP hD hS hA rfl px_df11 hc61_33 hs61_33 px_d259_61 (fun q61_33 H hP hD hS => ?_)
                    have hw := hw q61_33
                    have hP := hP.swap
                    have hD := hD.swap
                    have hP : va_P (dC, dI) vwCl (([(ho, .inr (1, [.ref q_o, .ref q_t, .int o_reached])), (q_o, .inl (cc.2.1, l_o, .inl g_o)), (q_t, .inl (cc.2.1, 182, .inl g_t)), (q61_33, .inr (11, [.null, .int 0, .int 0]))] : va_W) ++ px_cp cc ho cm np ns hm pa sa mm pp ss) H := hP
                    have hD : va_D A (([(ho, .inr (1, [.ref q_o, .ref q_t, .int o_reached])), (q_o, .inl (cc.2.1, l_o, .inl g_o)), (q_t, .inl (cc.2.1, 182, .inl g_t)), (q61_33, .inr (11, [.null, .int 0, .int 0]))] : va_W) ++ px_cp cc ho cm np ns hm pa sa mm pp ss) := hD
                    refine lv_dup hx hb px_d259_64 rfl ?_
                    refine lv_aload hx hb px_d259_65 (lv_at hl 0 rfl) ?_
                    obtain ⟨hpp67, hw⟩ := hw
                    refine va_getN (D := (dC, dI)) (ci := 11) (v := .ref (sa (pp k59_31).1)) (C := "MatroidDesk$Part") (T := px_T11) (N := 3) hx hb htw px_in11 hown hK hP (4 + (13 * cm + k59_31)) (px_gp rfl hpp67) rfl 0 (by decide) (va_Nw.use (w := .fieldLinkNest "MatroidDesk$Matroid" 162 "MatroidDesk$Part" "source" "LMatroidDesk$Source;" "MatroidDesk") rfl (hN.1 ("MatroidDesk$Matroid", 162, "MatroidDesk$Part", "source", "LMatroidDesk$Source;", "MatroidDesk") px_nf22)) (fun _ h9 => h9) rfl px_d259_67 ?_
                    refine lv_aload hx hb px_d259_70 (lv_at hl 0 rfl) ?_
                    obtain ⟨hpp72, hw⟩ := hw
                    refine va_getN (D := (dC, dI)) (ci := 11) (v := .int ((pp k59_31).2.1)) (C := "MatroidDesk$Part") (T := px_T11) (N := 3) hx hb htw px_in11 hown hK hP (4 + (13 * cm + k59_31)) (px_gp rfl hpp72) rfl 1 (by decide) (va_Nw.use (w := .fieldLinkNest "MatroidDesk$Matroid" 147 "MatroidDesk$Part" "held" "I" "MatroidDesk") rfl (hN.1 ("MatroidDesk$Matroid", 147, "MatroidDesk$Part", "held", "I", "MatroidDesk") px_nf23)) (fun _ h9 => h9) rfl px_d259_72 ?_
                    refine lv_aload_n hx hb px_d259_75 rfl (lv_at hl 2 rfl) ?_
                    refine lv_aload hx hb px_d259_76 (lv_at hl 0 rfl) ?_
                    refine lv_iload_n hx hb px_d259_78 rfl (lv_at hl 4 rfl) ?_
                    refine lv_iload hx hb px_d259_79 (lv_at hl 5 rfl) ?_
                    obtain ⟨hp81, hw⟩ := hw
                    have hPc := hP.part (cx := [(ho, .inr (1, [.ref q_o, .ref q_t, .int o_reached])), (q_o, .inl (cc.2.1, l_o, .inl g_o)), (q_t, .inl (cc.2.1, 182, .inl g_t))]) [0, 1, 2] rfl
                    have hDc := hD.part (cx := [(ho, .inr (1, [.ref q_o, .ref q_t, .int o_reached])), (q_o, .inl (cc.2.1, l_o, .inl g_o)), (q_t, .inl (cc.2.1, 182, .inl g_t))]) [0, 1, 2] (by decide) rfl
                    have hFc := va_freeP (cx := [(ho, .inr (1, [.ref q_o, .ref q_t, .int o_reached])), (q_o, .inl (cc.2.1, l_o, .inl g_o)), (q_t, .inl (cc.2.1, 182, .inl g_t))]) hD hS hA [0, 1, 2] rfl
                    have hKc := hK.sub (tys' := [(cc.2.1, .int), (cc.2.2.2.1, .byte), (cc.2.2.2.2, .long), (cc.1, .object "MatroidDesk$Part"), (cc.2.2.1, (.array .int))]) [0, 1, 2, 3, 4] rfl
                    refine va_calli (va_runV (As := [.ref (pa k59_31), .int x3, .int x4]) (rest := [.int ((pp k59_31).2.1), .ref (sa (pp k59_31).1), .ref q61_33, .ref q61_33]) ⟨hx, hb, hml, hown, htw⟩ (w260_met l dC dI H.size ho q_t a1x cc cm np ns hm pa sa pp ss k59_31 x3 x4 q_o l_o o_reached g_o g_t mm _ hw) (cwV 3 htw (px_gv px_w1328 px_w1330 px_w1331 px_w154 px_g260) rfl rfl rfl (by decide +kernel) ⟨Nat.le_of_ble_eq_true rfl, Nat.le_of_ble_eq_true rfl⟩) ⟨fun a U g mk q => by obtain ⟨q0, q1, qP, qK, qD, qN⟩ := q; exact ⟨q0, q1, qP, va_K.moved (u := U) (U := U.calling g mk a) (Vm.Alike.refl U.vm) qK, qD, qN.same rfl⟩, va_recv hK hP (ci := 10) (q0 := (4 + (13 * a1x + 0))) rfl (px_cg0 rfl hp81), fun U hU hW => ⟨rfl, by rw [hU], by rw [hU]; exact hPc, va_K.moved hW.alike hKc, hDc.weaken (fun _ _ _ _ => trivial), hN.warm hW⟩⟩ rfl rfl hl.1 rfl (lv_room (Nat.le_of_ble_eq_true rfl)) px_d259_81 ⟨hc61_33, hs61_33⟩) hS (fun q _ h => hFc q h) hFc (fun r81 u t H1 locs ht hvm hw hB hz1 hk1 hS => ?_)
                    obtain ⟨v34, v35, v36, v37, v38, v39⟩ := u
                    obtain ⟨hP1, hK1, hD1⟩ := hB
                    rw [ht] at hP1
                    obtain ⟨hP, hD⟩ := va_joinP (wr := [(q61_33, .inr (11, [.null, .int 0, .int 0]))]) (rx := [(ho, .inr (1, [.ref v34, .ref q_t, .int v36])), (v34, .inl (cc.2.1, v35, .inl v37)), (q_t, .inl (cc.2.1, 182, .inl v38))]) hP hD [0, 1, 2] [3] rfl rfl (by decide) (by decide) hk1 hFc hP1 hD1
                    generalize H1 = H at hP hS ⊢
                    have hP : va_P (dC, dI) vwCl (([(q61_33, .inr (11, [.null, .int 0, .int 0])), (ho, .inr (1, [.ref v34, .ref q_t, .int v36])), (v34, .inl (cc.2.1, v35, .inl v37)), (q_t, .inl (cc.2.1, 182, .inl v38))] : va_W) ++ px_cp cc ho cm np ns hm pa sa v39 pp ss) H := hP
                    have hD : va_D A (([(q61_33, .inr (11, [.null, .int 0, .int 0])), (ho, .inr (1, [.ref v34, .ref q_t, .int v36])), (v34, .inl (cc.2.1, v35, .inl v37)), (q_t, .inl (cc.2.1, 182, .inl v38))] : va_W) ++ px_cp cc ho cm np ns hm pa sa v39 pp ss) := hD
                    have hP := hP.part (cx := [(ho, .inr (1, [.ref v34, .ref q_t, .int v36])), (v34, .inl (cc.2.1, v35, .inl v37)), (q_t, .inl (cc.2.1, 182, .inl v38)), (q61_33, .inr (11, [.null, .int 0, .int 0]))]) [1, 2, 3, 0] rfl
                    have hD := hD.part (cx := [(ho, .inr (1, [.ref v34, .ref q_t, .int v36])), (v34, .inl (cc.2.1, v35, .inl v37)), (q_t, .inl (cc.2.1, 182, .inl v38)), (q61_33, .inr (11, [.null, .int 0, .int 0]))]) [1, 2, 3, 0] (by decide) rfl
                    refine lv_ior hx hb px_d259_84 ?_
                    refine lv_aload hx hb px_d259_85 (lv_at hl 0 rfl) ?_
                    obtain ⟨hpp87, hw⟩ := hw
                    refine va_getN (D := (dC, dI)) (ci := 11) (v := .int ((pp k59_31).2.2)) (C := "MatroidDesk$Part") (T := px_T11) (N := 3) hx hb htw px_in11 hown hK hP (4 + (13 * cm + k59_31)) (px_gp rfl hpp87) rfl 2 (by decide) (va_Nw.use (w := .fieldLinkNest "MatroidDesk$Matroid" 150 "MatroidDesk$Part" "turned" "Z" "MatroidDesk") rfl (hN.1 ("MatroidDesk$Matroid", 150, "MatroidDesk$Part", "turned", "Z", "MatroidDesk") px_nf24)) (fun _ h9 => h9) rfl px_d259_87 ?_
                    refine lv_iload hx hb px_d259_90 (lv_at hl 6 rfl) ?_
                    refine lv_icmp_eq (tgt := 99) hx hb px_d259_92 (by decide) (fun c92 => ?_) (fun c92 => ?_)
                    · have hw := hw.1 c92
                      refine lv_iconst (v := 0) hx hb px_d259_99 (by decide) ?_
                      have hPc := hP.sub (ws' := [(q61_33, .inr (11, [.null, .int 0, .int 0]))]) [3] rfl
                      have hDc := hD.sub (ws' := [(q61_33, .inr (11, [.null, .int 0, .int 0]))]) [3] (by decide) rfl
                      have hFc := va_free (wc := [(q61_33, .inr (11, [.null, .int 0, .int 0]))]) hD hS hA [3] rfl
                      have hKc := hK.sub (tys' := []) [] rfl
                      refine va_callv (va_runI (As := [.ref (sa (pp k59_31).1), .int (((pp k59_31).2.1) ||| r81), .int 0]) (rest := [.ref q61_33]) ⟨hx, hb, hml, hown, htw⟩ (w248_met l dC dI H.size q61_33 (sa (pp k59_31).1) (((pp k59_31).2.1) ||| r81) 0 none 0 0 _ hw) (cwI 3 htw px_g248 rfl rfl rfl (htw _ px_w171) (htw _ px_w1263) (htw _ px_w1281) rfl (by decide +kernel) ⟨Nat.le_of_ble_eq_true rfl, Nat.le_of_ble_eq_true rfl⟩) ⟨fun a U g mk q => by obtain ⟨q0, q1, qP, qK, qD, qN⟩ := q; exact ⟨q0, q1, qP, va_K.moved (u := U) (U := U.calling g mk a) (Vm.Alike.refl U.vm) qK, qD, qN.same rfl⟩, fun U hU hW => ⟨rfl, by rw [hU], by rw [hU]; exact hPc, va_K.moved hW.alike hKc, hDc.weaken (fun _ _ _ _ => trivial), hN.warm hW⟩⟩ rfl rfl hl.1 rfl (lv_room (Nat.le_of_ble_eq_true rfl)) px_d259_100 ⟨hc61_33, hs61_33⟩) hS (fun q _ h => hFc q h) hFc (fun u t H1 locs ht hvm hw hB hz1 hk1 hS => ?_)
                      obtain ⟨v41, v42, v43⟩ := u
                      obtain ⟨hP1, hK1, hD1⟩ := hB
                      rw [ht] at hP1
                      obtain ⟨hP, hD⟩ := va_joinQ (wr := [(ho, .inr (1, [.ref v34, .ref q_t, .int v36])), (v34, .inl (cc.2.1, v35, .inl v37)), (q_t, .inl (cc.2.1, 182, .inl v38))]) (w1 := [(q61_33, .inr (11, [va_rf v41, .int v42, .int v43]))]) hP hD [3] [0, 1, 2] rfl rfl (by decide) (by decide) hk1 hFc hP1 hD1
                      generalize H1 = H at hP hS ⊢
                      have hP : va_P (dC, dI) vwCl (([(ho, .inr (1, [.ref v34, .ref q_t, .int v36])), (v34, .inl (cc.2.1, v35, .inl v37)), (q_t, .inl (cc.2.1, 182, .inl v38)), (q61_33, .inr (11, [va_rf v41, .int v42, .int v43]))] : va_W) ++ px_cp cc ho cm np ns hm pa sa v39 pp ss) H := hP
                      have hD : va_D A (([(ho, .inr (1, [.ref v34, .ref q_t, .int v36])), (v34, .inl (cc.2.1, v35, .inl v37)), (q_t, .inl (cc.2.1, 182, .inl v38)), (q61_33, .inr (11, [va_rf v41, .int v42, .int v43]))] : va_W) ++ px_cp cc ho cm np ns hm pa sa v39 pp ss) := hD
                      obtain ⟨hsr103, hpk103, hw⟩ := hw
                      obtain ⟨pa45, epa45⟩ : ∃ z : Nat → Nat, z = va_up pa np q61_33 := ⟨_, rfl⟩
                      obtain ⟨pp45, epp45⟩ : ∃ z : Nat → px_PR, z = va_up pp np ((pp k59_31).1, v42, v43) := ⟨_, rfl⟩
                      have hsr103 : v41 = some (sa ((pp k59_31).1)) := hsr103
                      have hpk103 : px_pok cm np v39 := hpk103
                      rw [hsr103] at hP hD
                      have hP : va_P (dC, dI) vwCl (([(ho, .inr (1, [.ref v34, .ref q_t, .int v36])), (v34, .inl (cc.2.1, v35, .inl v37)), (q_t, .inl (cc.2.1, 182, .inl v38))] : va_W) ++ px_cp cc ho cm (np + 1) ns hm pa45 sa v39 pp45 ss) H := px_pnP (X := [(ho, .inr (1, [.ref v34, .ref q_t, .int v36])), (v34, .inl (cc.2.1, v35, .inl v37)), (q_t, .inl (cc.2.1, 182, .inl v38))]) hpk103 rfl epa45 epp45 hP
                      have hD : va_D A (([(ho, .inr (1, [.ref v34, .ref q_t, .int v36])), (v34, .inl (cc.2.1, v35, .inl v37)), (q_t, .inl (cc.2.1, 182, .inl v38))] : va_W) ++ px_cp cc ho cm (np + 1) ns hm pa45 sa v39 pp45 ss) := px_pnD (X := [(ho, .inr (1, [.ref v34, .ref q_t, .int v36])), (v34, .inl (cc.2.1, v35, .inl v37)), (q_t, .inl (cc.2.1, 182, .inl v38))]) hpk103 rfl epa45 epp45 hD
                      have hw := hw pa45 pp45 epa45 epp45
                      obtain ⟨ho103_0, hw⟩ := hw
                      rw [show pa k59_31 = pa45 k59_31 by rw [epa45, va_up_ne _ _ (Nat.ne_of_lt ho103_0)]] at hl
                      have eq103 : q61_33 = pa45 np := by rw [epa45, va_up_self]
                      rw [eq103]
                      refine lv_astore (lv' := [(7, .ref (pa45 np)), (6, .ref (pa45 k59_31)), (0, .ref (hm a0x)), (1, .ref (hm a1x)), (2, .int x2), (3, .int x3), (4, .int x4), (5, .int x5), (8, .int x8), (9, .int x9)]) hx hb px_d259_103 hl (by decide) rfl (fun ls hl => ?_)
                      exact S105 x2 x3 x4 x5 (some k59_31) (some np) x8 x9 v34 v35 v36 v37 v38 v39 (np + 1) pa45 pp45 (kc + 1) (ks + 3) H locs ls hc61_33 hs61_33 hP hD hS (lv_sub hl [2, 3, 4, 5, 6, 7, 1, 0, 8, 9] rfl) hw
                    · have hw := hw.2 c92
                      refine lv_iconst (v := 1) hx hb px_d259_95 (by decide) ?_
                      refine lv_goto (tgt := 100) hx hb px_d259_96 (by decide) ?_
                      have hPc := hP.sub (ws' := [(q61_33, .inr (11, [.null, .int 0, .int 0]))]) [3] rfl
                      have hDc := hD.sub (ws' := [(q61_33, .inr (11, [.null, .int 0, .int 0]))]) [3] (by decide) rfl
                      have hFc := va_free (wc := [(q61_33, .inr (11, [.null, .int 0, .int 0]))]) hD hS hA [3] rfl
                      have hKc := hK.sub (tys' := []) [] rfl
                      refine va_callv (va_runI (As := [.ref (sa (pp k59_31).1), .int (((pp k59_31).2.1) ||| r81), .int 1]) (rest := [.ref q61_33]) ⟨hx, hb, hml, hown, htw⟩ (w248_met l dC dI H.size q61_33 (sa (pp k59_31).1) (((pp k59_31).2.1) ||| r81) 1 none 0 0 _ hw) (cwI 3 htw px_g248 rfl rfl rfl (htw _ px_w171) (htw _ px_w1263) (htw _ px_w1281) rfl (by decide +kernel) ⟨Nat.le_of_ble_eq_true rfl, Nat.le_of_ble_eq_true rfl⟩) ⟨fun a U g mk q => by obtain ⟨q0, q1, qP, qK, qD, qN⟩ := q; exact ⟨q0, q1, qP, va_K.moved (u := U) (U := U.calling g mk a) (Vm.Alike.refl U.vm) qK, qD, qN.same rfl⟩, fun U hU hW => ⟨rfl, by rw [hU], by rw [hU]; exact hPc, va_K.moved hW.alike hKc, hDc.weaken (fun _ _ _ _ => trivial), hN.warm hW⟩⟩ rfl rfl hl.1 rfl (lv_room (Nat.le_of_ble_eq_true rfl)) px_d259_100 ⟨hc61_33, hs61_33⟩) hS (fun q _ h => hFc q h) hFc (fun u t H1 locs ht hvm hw hB hz1 hk1 hS => ?_)
                      obtain ⟨v46, v47, v48⟩ := u
                      obtain ⟨hP1, hK1, hD1⟩ := hB
                      rw [ht] at hP1
                      obtain ⟨hP, hD⟩ := va_joinQ (wr := [(ho, .inr (1, [.ref v34, .ref q_t, .int v36])), (v34, .inl (cc.2.1, v35, .inl v37)), (q_t, .inl (cc.2.1, 182, .inl v38))]) (w1 := [(q61_33, .inr (11, [va_rf v46, .int v47, .int v48]))]) hP hD [3] [0, 1, 2] rfl rfl (by decide) (by decide) hk1 hFc hP1 hD1
                      generalize H1 = H at hP hS ⊢
                      have hP : va_P (dC, dI) vwCl (([(ho, .inr (1, [.ref v34, .ref q_t, .int v36])), (v34, .inl (cc.2.1, v35, .inl v37)), (q_t, .inl (cc.2.1, 182, .inl v38)), (q61_33, .inr (11, [va_rf v46, .int v47, .int v48]))] : va_W) ++ px_cp cc ho cm np ns hm pa sa v39 pp ss) H := hP
                      have hD : va_D A (([(ho, .inr (1, [.ref v34, .ref q_t, .int v36])), (v34, .inl (cc.2.1, v35, .inl v37)), (q_t, .inl (cc.2.1, 182, .inl v38)), (q61_33, .inr (11, [va_rf v46, .int v47, .int v48]))] : va_W) ++ px_cp cc ho cm np ns hm pa sa v39 pp ss) := hD
                      obtain ⟨hsr103, hpk103, hw⟩ := hw
                      obtain ⟨pa50, epa50⟩ : ∃ z : Nat → Nat, z = va_up pa np q61_33 := ⟨_, rfl⟩
                      obtain ⟨pp50, epp50⟩ : ∃ z : Nat → px_PR, z = va_up pp np ((pp k59_31).1, v47, v48) := ⟨_, rfl⟩
                      have hsr103 : v46 = some (sa ((pp k59_31).1)) := hsr103
                      have hpk103 : px_pok cm np v39 := hpk103
                      rw [hsr103] at hP hD
                      have hP : va_P (dC, dI) vwCl (([(ho, .inr (1, [.ref v34, .ref q_t, .int v36])), (v34, .inl (cc.2.1, v35, .inl v37)), (q_t, .inl (cc.2.1, 182, .inl v38))] : va_W) ++ px_cp cc ho cm (np + 1) ns hm pa50 sa v39 pp50 ss) H := px_pnP (X := [(ho, .inr (1, [.ref v34, .ref q_t, .int v36])), (v34, .inl (cc.2.1, v35, .inl v37)), (q_t, .inl (cc.2.1, 182, .inl v38))]) hpk103 rfl epa50 epp50 hP
                      have hD : va_D A (([(ho, .inr (1, [.ref v34, .ref q_t, .int v36])), (v34, .inl (cc.2.1, v35, .inl v37)), (q_t, .inl (cc.2.1, 182, .inl v38))] : va_W) ++ px_cp cc ho cm (np + 1) ns hm pa50 sa v39 pp50 ss) := px_pnD (X := [(ho, .inr (1, [.ref v34, .ref q_t, .int v36])), (v34, .inl (cc.2.1, v35, .inl v37)), (q_t, .inl (cc.2.1, 182, .inl v38))]) hpk103 rfl epa50 epp50 hD
                      have hw := hw pa50 pp50 epa50 epp50
                      obtain ⟨ho103_0, hw⟩ := hw
                      rw [show pa k59_31 = pa50 k59_31 by rw [epa50, va_up_ne _ _ (Nat.ne_of_lt ho103_0)]] at hl
                      have eq103 : q61_33 = pa50 np := by rw [epa50, va_up_self]
                      rw [eq103]
                      refine lv_astore (lv' := [(7, .ref (pa50 np)), (6, .ref (pa50 k59_31)), (0, .ref (hm a0x)), (1, .ref (hm a1x)), (2, .int x2), (3, .int x3), (4, .int x4), (5, .int x5), (8, .int x8), (9, .int x9)]) hx hb px_d259_103 hl (by decide) rfl (fun ls hl => ?_)
                      exact S105 x2 x3 x4 x5 (some k59_31) (some np) x8 x9 v34 v35 v36 v37 v38 v39 (np + 1) pa50 pp50 (kc + 1) (ks + 3) H locs ls hc61_33 hs61_33 hP hD hS (lv_sub hl [2, 3, 4, 5, 6, 7, 1, 0, 8, 9] rfl) hw
        | some a12_28 =>
          have hw := hw.2 a12_28 rfl
          have hP : va_P (dC, dI) vwCl (([(ho, .inr (1, [.ref q_o, .ref q_t, .int o_reached])), (q_o, .inl (cc.2.1, l_o, .inl g_o)), (q_t, .inl (cc.2.1, 182, .inl g_t))] : va_W) ++ px_cp cc ho cm np ns hm pa sa mm pp ss) H := hP
          have hD : va_D A (([(ho, .inr (1, [.ref q_o, .ref q_t, .int o_reached])), (q_o, .inl (cc.2.1, l_o, .inl g_o)), (q_t, .inl (cc.2.1, 182, .inl g_t))] : va_W) ++ px_cp cc ho cm np ns hm pa sa mm pp ss) := hD
          have hl : lv_has ls 10 [(0, .ref (hm a0x)), (1, .ref (hm a1x)), (2, .int x2), (3, .int x3), (4, .int x4), (5, .int x5), (6, .null), (7, .ref (pa a12_28)), (8, .int x8), (9, .int x9)] := hl
          refine W.eq (g2 := F0 m 12 ls []) rfl ?_
          refine lv_iload hx hb px_d259_12 (lv_at hl 9 rfl) ?_
          refine lv_aload_n hx hb px_d259_14 rfl (lv_at hl 1 rfl) ?_
          obtain ⟨hp15, hw⟩ := hw
          refine va_get (D := (dC, dI)) (ci := 10) (v := .int ((mm a1x).2.1 13)) (C := "MatroidDesk$Matroid") (T := px_T10) (N := 15) hx hb htw px_in10 hown hK hP (3 + (13 * a1x + 0)) (px_cg0 rfl hp15) rfl 13 (by decide) (htw _ px_w1264) (fun _ h9 => h9) rfl px_d259_15 ?_
          refine lv_icmp_ge (tgt := 137) hx hb px_d259_18 (by decide) (fun c18 => ?_) (fun c18 => ?_)
          · have hw := hw.1 c18
            refine W.widen (k := mc) (n := ms) hkc hks ?_
            rw [← hQ]
            exact W.vret hx hb hr (fun t ht hW => ⟨⟨(q_o, l_o, o_reached, g_o, g_t, mm, np, pa, pp), rfl, hw, by rw [ht]; exact hP, va_K.moved hW.alike hK, hD⟩, hS.F ht⟩) hS.2.2 px_d259_137
          · have hw := hw.2 c18
            refine lv_iload_n hx hb px_d259_21 rfl (lv_at hl 3 rfl) ?_
            refine lv_iload hx hb px_d259_22 (lv_at hl 9 rfl) ?_
            refine lv_ishr hx hb px_d259_24 ?_
            refine lv_iconst (v := 1) hx hb px_d259_25 (by decide) ?_
            refine lv_iand hx hb px_d259_26 ?_
            refine lv_if_ne (tgt := 131) hx hb px_d259_27 (by decide) (fun c27 => ?_) (fun c27 => ?_)
            · have hw := hw.1 c27
              exact S131 x2 x3 x4 x5 none (some a12_28) x8 x9 q_o l_o o_reached g_o g_t mm np pa pp kc ks H locs ls hkc hks hP hD hS (lv_sub hl [0, 1, 2, 3, 4, 5, 6, 7, 8, 9] rfl) hw
            · have hw := hw.2 c27
              refine lv_aload_n hx hb px_d259_30 rfl (lv_at hl 1 rfl) ?_
              obtain ⟨hp31, hw⟩ := hw
              refine va_get (D := (dC, dI)) (ci := 10) (v := .ref ((mm a1x).1 1)) (C := "MatroidDesk$Matroid") (T := px_T10) (N := 15) hx hb htw px_in10 hown hK hP (3 + (13 * a1x + 0)) (px_cg0 rfl hp31) rfl 1 (by decide) (htw _ px_w1000) (fun _ h9 => h9) rfl px_d259_31 ?_
              refine lv_iload hx hb px_d259_34 (lv_at hl 9 rfl) ?_
              obtain ⟨hp36, hw⟩ := hw
              obtain ⟨hi36, hw⟩ := hw
              refine va_aldq hx hb hK hP (3 + (13 * a1x + 1)) 3 (px_cg1 rfl hp36) rfl hi36 px_d259_36 ?_
              refine W.eq (g2 := F0 m 37 ls (va_rf (Option.map pa ((mm a1x).2.2.2.2.2 (Int32.toNatClampNeg x9))) :: [])) rfl ?_
              cases hz37_51 : (mm a1x).2.2.2.2.2 (Int32.toNatClampNeg x9) with
              | none =>
                have hw := hw.1 hz37_51
                refine W.eq (g2 := F0 m 37 ls (.null :: [])) rfl ?_
                refine lv_ifnullN (tgt := 105) hx hb px_d259_37 (by decide) ?_
                exact S105 x2 x3 x4 x5 none (some a12_28) x8 x9 q_o l_o o_reached g_o g_t mm np pa pp kc ks H locs ls hkc hks hP hD hS (lv_sub hl [0, 1, 2, 3, 4, 5, 6, 7, 8, 9] rfl) hw
              | some k37_51 =>
                have hw := hw.2 k37_51 hz37_51
                refine W.eq (g2 := F0 m 37 ls (.ref (pa k37_51) :: [])) rfl ?_
                refine lv_ifnull hx hb px_d259_37 ?_
                refine lv_aload_n hx hb px_d259_40 rfl (lv_at hl 1 rfl) ?_
                obtain ⟨hp41, hw⟩ := hw
                refine va_get (D := (dC, dI)) (ci := 10) (v := .ref ((mm a1x).1 1)) (C := "MatroidDesk$Matroid") (T := px_T10) (N := 15) hx hb htw px_in10 hown hK hP (3 + (13 * a1x + 0)) (px_cg0 rfl hp41) rfl 1 (by decide) (htw _ px_w1000) (fun _ h9 => h9) rfl px_d259_41 ?_
                refine lv_iload hx hb px_d259_44 (lv_at hl 9 rfl) ?_
                obtain ⟨hp46, hw⟩ := hw
                obtain ⟨hi46, hw⟩ := hw
                refine va_aldq hx hb hK hP (3 + (13 * a1x + 1)) 3 (px_cg1 rfl hp46) rfl hi46 px_d259_46 ?_
                refine W.eq (g2 := F0 m 47 ls (va_rf (Option.map pa ((mm a1x).2.2.2.2.2 (Int32.toNatClampNeg x9))) :: [])) rfl ?_
                cases hz47_52 : (mm a1x).2.2.2.2.2 (Int32.toNatClampNeg x9) with
                | none =>
                  have hw := hw.1 hz47_52
                  refine W.eq (g2 := F0 m 47 ls (.null :: [])) rfl ?_
                  refine lv_aloadN hx hb px_d259_47 (lv_at hl 6 rfl) ?_
                  refine lv_acmp_eq (rx := none) (ry := none) (tgt := 105) hx hb px_d259_49 (by decide) (fun _ => ?_) (fun h9 => absurd rfl h9)
                  exact S105 x2 x3 x4 x5 none (some a12_28) x8 x9 q_o l_o o_reached g_o g_t mm np pa pp kc ks H locs ls hkc hks hP hD hS (lv_sub hl [0, 1, 2, 3, 4, 5, 6, 7, 8, 9] rfl) hw
                | some k47_52 =>
                  have hw := hw.2 k47_52 hz47_52
                  refine W.eq (g2 := F0 m 47 ls (.ref (pa k47_52) :: [])) rfl ?_
                  refine lv_aloadN hx hb px_d259_47 (lv_at hl 6 rfl) ?_
                  refine lv_acmp_eq (rx := some (pa k47_52)) (ry := none) (tgt := 105) hx hb px_d259_49 (by decide) (fun h9 => absurd h9 (by simp)) (fun _ => ?_)
                  refine lv_aload_n hx hb px_d259_52 rfl (lv_at hl 1 rfl) ?_
                  obtain ⟨hp53, hw⟩ := hw
                  refine va_get (D := (dC, dI)) (ci := 10) (v := .ref ((mm a1x).1 1)) (C := "MatroidDesk$Matroid") (T := px_T10) (N := 15) hx hb htw px_in10 hown hK hP (3 + (13 * a1x + 0)) (px_cg0 rfl hp53) rfl 1 (by decide) (htw _ px_w1000) (fun _ h9 => h9) rfl px_d259_53 ?_
                  refine lv_iload hx hb px_d259_56 (lv_at hl 9 rfl) ?_
                  obtain ⟨hp58, hw⟩ := hw
                  obtain ⟨hi58, hw⟩ := hw
                  refine va_aldq hx hb hK hP (3 + (13 * a1x + 1)) 3 (px_cg1 rfl hp58) rfl hi58 px_d259_58 ?_
                  refine W.eq (g2 := F0 m 59 ls (va_rf (Option.map pa ((mm a1x).2.2.2.2.2 (Int32.toNatClampNeg x9))) :: [])) rfl ?_
                  cases hz59_53 : (mm a1x).2.2.2.2.2 (Int32.toNatClampNeg x9) with
                  | none =>
                    have hw := hw.1 hz59_53
                    refine W.eq (g2 := F0 m 59 ls (.null :: [])) rfl ?_
                    refine lv_astoreN (lv' := [(6, .null), (0, .ref (hm a0x)), (1, .ref (hm a1x)), (2, .int x2), (3, .int x3), (4, .int x4), (5, .int x5), (7, .ref (pa a12_28)), (8, .int x8), (9, .int x9)]) hx hb px_d259_59 hl (by decide) rfl (fun ls hl => ?_)
                    obtain ⟨hc61_54, hs61_54, hw⟩ := hw
                    refine va_new (ci := 11) (fs := [.null, .int 0, .int 0]) (C := "MatroidDesk$Part") (T := px_T11) (N := 3) hx hb htw px_in11 px_ty11 px_tyok11 hown (htw _ px_w999) (htw _ px_w172) (htw _ px_w171) hK hP hD hS hA rfl px_df11 hc61_54 hs61_54 px_d259_61 (fun q61_54 H hP hD hS => ?_)
                    have hw := hw q61_54
                    have hP := hP.swap
                    have hD := hD.swap
                    have hP : va_P (dC, dI) vwCl (([(ho, .inr (1, [.ref q_o, .ref q_t, .int o_reached])), (q_o, .inl (cc.2.1, l_o, .inl g_o)), (q_t, .inl (cc.2.1, 182, .inl g_t)), (q61_54, .inr (11, [.null, .int 0, .int 0]))] : va_W) ++ px_cp cc ho cm np ns hm pa sa mm pp ss) H := hP
                    have hD : va_D A (([(ho, .inr (1, [.ref q_o, .ref q_t, .int o_reached])), (q_o, .inl (cc.2.1, l_o, .inl g_o)), (q_t, .inl (cc.2.1, 182, .inl g_t)), (q61_54, .inr (11, [.null, .int 0, .int 0]))] : va_W) ++ px_cp cc ho cm np ns hm pa sa mm pp ss) := hD
                    refine lv_dup hx hb px_d259_64 rfl ?_
                    refine lv_aloadN hx hb px_d259_65 (lv_at hl 0 rfl) ?_
                    exact False.elim hw
                  | some k59_53 =>
                    have hw := hw.2 k59_53 hz59_53
                    refine W.eq (g2 := F0 m 59 ls (.ref (pa k59_53) :: [])) rfl ?_
                    refine lv_astore (lv' := [(6, .ref (pa k59_53)), (0, .ref (hm a0x)), (1, .ref (hm a1x)), (2, .int x2), (3, .int x3), (4, .int x4), (5, .int x5), (7, .ref (pa a12_28)), (8, .int x8), (9, .int x9)]) hx hb px_d259_59 hl (by decide) rfl (fun ls hl => ?_)
                    obtain ⟨hc61_55, hs61_55, hw⟩ := hw
                    refine va_new (ci := 11) (fs := [.null, .int 0, .int 0]) (C := "MatroidDesk$Part") (T := px_T11) (N := 3) hx hb htw px_in11 px_ty11 px_tyok11 hown (htw _ px_w999) (htw _ px_w172) (htw _ px_w171) hK hP hD hS hA rfl px_df11 hc61_55 hs61_55 px_d259_61 (fun q61_55 H hP hD hS => ?_)
                    have hw := hw q61_55
                    have hP := hP.swap
                    have hD := hD.swap
                    have hP : va_P (dC, dI) vwCl (([(ho, .inr (1, [.ref q_o, .ref q_t, .int o_reached])), (q_o, .inl (cc.2.1, l_o, .inl g_o)), (q_t, .inl (cc.2.1, 182, .inl g_t)), (q61_55, .inr (11, [.null, .int 0, .int 0]))] : va_W) ++ px_cp cc ho cm np ns hm pa sa mm pp ss) H := hP
                    have hD : va_D A (([(ho, .inr (1, [.ref q_o, .ref q_t, .int o_reached])), (q_o, .inl (cc.2.1, l_o, .inl g_o)), (q_t, .inl (cc.2.1, 182, .inl g_t)), (q61_55, .inr (11, [.null, .int 0, .int 0]))] : va_W) ++ px_cp cc ho cm np ns hm pa sa mm pp ss) := hD
                    refine lv_dup hx hb px_d259_64 rfl ?_
                    refine lv_aload hx hb px_d259_65 (lv_at hl 0 rfl) ?_
                    obtain ⟨hpp67, hw⟩ := hw
                    refine va_getN (D := (dC, dI)) (ci := 11) (v := .ref (sa (pp k59_53).1)) (C := "MatroidDesk$Part") (T := px_T11) (N := 3) hx hb htw px_in11 hown hK hP (4 + (13 * cm + k59_53)) (px_gp rfl hpp67) rfl 0 (by decide) (va_Nw.use (w := .fieldLinkNest "MatroidDesk$Matroid" 162 "MatroidDesk$Part" "source" "LMatroidDesk$Source;" "MatroidDesk") rfl (hN.1 ("MatroidDesk$Matroid", 162, "MatroidDesk$Part", "source", "LMatroidDesk$Source;", "MatroidDesk") px_nf22)) (fun _ h9 => h9) rfl px_d259_67 ?_
                    refine lv_aload hx hb px_d259_70 (lv_at hl 0 rfl) ?_
                    obtain ⟨hpp72, hw⟩ := hw
                    refine va_getN (D := (dC, dI)) (ci := 11) (v := .int ((pp k59_53).2.1)) (C := "MatroidDesk$Part") (T := px_T11) (N := 3) hx hb htw px_in11 hown hK hP (4 + (13 * cm + k59_53)) (px_gp rfl hpp72) rfl 1 (by decide) (va_Nw.use (w := .fieldLinkNest "MatroidDesk$Matroid" 147 "MatroidDesk$Part" "held" "I" "MatroidDesk") rfl (hN.1 ("MatroidDesk$Matroid", 147, "MatroidDesk$Part", "held", "I", "MatroidDesk") px_nf23)) (fun _ h9 => h9) rfl px_d259_72 ?_
                    refine lv_aload_n hx hb px_d259_75 rfl (lv_at hl 2 rfl) ?_
                    refine lv_aload hx hb px_d259_76 (lv_at hl 0 rfl) ?_
                    refine lv_iload_n hx hb px_d259_78 rfl (lv_at hl 4 rfl) ?_
                    refine lv_iload hx hb px_d259_79 (lv_at hl 5 rfl) ?_
                    obtain ⟨hp81, hw⟩ := hw
                    have hPc := hP.part (cx := [(ho, .inr (1, [.ref q_o, .ref q_t, .int o_reached])), (q_o, .inl (cc.2.1, l_o, .inl g_o)), (q_t, .inl (cc.2.1, 182, .inl g_t))]) [0, 1, 2] rfl
                    have hDc := hD.part (cx := [(ho, .inr (1, [.ref q_o, .ref q_t, .int o_reached])), (q_o, .inl (cc.2.1, l_o, .inl g_o)), (q_t, .inl (cc.2.1, 182, .inl g_t))]) [0, 1, 2] (by decide) rfl
                    have hFc := va_freeP (cx := [(ho, .inr (1, [.ref q_o, .ref q_t, .int o_reached])), (q_o, .inl (cc.2.1, l_o, .inl g_o)), (q_t, .inl (cc.2.1, 182, .inl g_t))]) hD hS hA [0, 1, 2] rfl
                    have hKc := hK.sub (tys' := [(cc.2.1, .int), (cc.2.2.2.1, .byte), (cc.2.2.2.2, .long), (cc.1, .object "MatroidDesk$Part"), (cc.2.2.1, (.array .int))]) [0, 1, 2, 3, 4] rfl
                    refine va_calli (va_runV (As := [.ref (pa k59_53), .int x3, .int x4]) (rest := [.int ((pp k59_53).2.1), .ref (sa (pp k59_53).1), .ref q61_55, .ref q61_55]) ⟨hx, hb, hml, hown, htw⟩ (w260_met l dC dI H.size ho q_t a1x cc cm np ns hm pa sa pp ss k59_53 x3 x4 q_o l_o o_reached g_o g_t mm _ hw) (cwV 3 htw (px_gv px_w1328 px_w1330 px_w1331 px_w154 px_g260) rfl rfl rfl (by decide +kernel) ⟨Nat.le_of_ble_eq_true rfl, Nat.le_of_ble_eq_true rfl⟩) ⟨fun a U g mk q => by obtain ⟨q0, q1, qP, qK, qD, qN⟩ := q; exact ⟨q0, q1, qP, va_K.moved (u := U) (U := U.calling g mk a) (Vm.Alike.refl U.vm) qK, qD, qN.same rfl⟩, va_recv hK hP (ci := 10) (q0 := (4 + (13 * a1x + 0))) rfl (px_cg0 rfl hp81), fun U hU hW => ⟨rfl, by rw [hU], by rw [hU]; exact hPc, va_K.moved hW.alike hKc, hDc.weaken (fun _ _ _ _ => trivial), hN.warm hW⟩⟩ rfl rfl hl.1 rfl (lv_room (Nat.le_of_ble_eq_true rfl)) px_d259_81 ⟨hc61_55, hs61_55⟩) hS (fun q _ h => hFc q h) hFc (fun r81 u t H1 locs ht hvm hw hB hz1 hk1 hS => ?_)
                    obtain ⟨v56, v57, v58, v59, v60, v61⟩ := u
                    obtain ⟨hP1, hK1, hD1⟩ := hB
                    rw [ht] at hP1
                    obtain ⟨hP, hD⟩ := va_joinP (wr := [(q61_55, .inr (11, [.null, .int 0, .int 0]))]) (rx := [(ho, .inr (1, [.ref v56, .ref q_t, .int v58])), (v56, .inl (cc.2.1, v57, .inl v59)), (q_t, .inl (cc.2.1, 182, .inl v60))]) hP hD [0, 1, 2] [3] rfl rfl (by decide) (by decide) hk1 hFc hP1 hD1
                    generalize H1 = H at hP hS ⊢
                    have hP : va_P (dC, dI) vwCl (([(q61_55, .inr (11, [.null, .int 0, .int 0])), (ho, .inr (1, [.ref v56, .ref q_t, .int v58])), (v56, .inl (cc.2.1, v57, .inl v59)), (q_t, .inl (cc.2.1, 182, .inl v60))] : va_W) ++ px_cp cc ho cm np ns hm pa sa v61 pp ss) H := hP
                    have hD : va_D A (([(q61_55, .inr (11, [.null, .int 0, .int 0])), (ho, .inr (1, [.ref v56, .ref q_t, .int v58])), (v56, .inl (cc.2.1, v57, .inl v59)), (q_t, .inl (cc.2.1, 182, .inl v60))] : va_W) ++ px_cp cc ho cm np ns hm pa sa v61 pp ss) := hD
                    have hP := hP.part (cx := [(ho, .inr (1, [.ref v56, .ref q_t, .int v58])), (v56, .inl (cc.2.1, v57, .inl v59)), (q_t, .inl (cc.2.1, 182, .inl v60)), (q61_55, .inr (11, [.null, .int 0, .int 0]))]) [1, 2, 3, 0] rfl
                    have hD := hD.part (cx := [(ho, .inr (1, [.ref v56, .ref q_t, .int v58])), (v56, .inl (cc.2.1, v57, .inl v59)), (q_t, .inl (cc.2.1, 182, .inl v60)), (q61_55, .inr (11, [.null, .int 0, .int 0]))]) [1, 2, 3, 0] (by decide) rfl
                    refine lv_ior hx hb px_d259_84 ?_
                    refine lv_aload hx hb px_d259_85 (lv_at hl 0 rfl) ?_
                    obtain ⟨hpp87, hw⟩ := hw
                    refine va_getN (D := (dC, dI)) (ci := 11) (v := .int ((pp k59_53).2.2)) (C := "MatroidDesk$Part") (T := px_T11) (N := 3) hx hb htw px_in11 hown hK hP (4 + (13 * cm + k59_53)) (px_gp rfl hpp87) rfl 2 (by decide) (va_Nw.use (w := .fieldLinkNest "MatroidDesk$Matroid" 150 "MatroidDesk$Part" "turned" "Z" "MatroidDesk") rfl (hN.1 ("MatroidDesk$Matroid", 150, "MatroidDesk$Part", "turned", "Z", "MatroidDesk") px_nf24)) (fun _ h9 => h9) rfl px_d259_87 ?_
                    refine lv_iload hx hb px_d259_90 (lv_at hl 6 rfl) ?_
                    refine lv_icmp_eq (tgt := 99) hx hb px_d259_92 (by decide) (fun c92 => ?_) (fun c92 => ?_)
                    · have hw := hw.1 c92
                      refine lv_iconst (v := 0) hx hb px_d259_99 (by decide) ?_
                      have hPc := hP.sub (ws' := [(q61_55, .inr (11, [.null, .int 0, .int 0]))]) [3] rfl
                      have hDc := hD.sub (ws' := [(q61_55, .inr (11, [.null, .int 0, .int 0]))]) [3] (by decide) rfl
                      have hFc := va_free (wc := [(q61_55, .inr (11, [.null, .int 0, .int 0]))]) hD hS hA [3] rfl
                      have hKc := hK.sub (tys' := []) [] rfl
                      refine va_callv (va_runI (As := [.ref (sa (pp k59_53).1), .int (((pp k59_53).2.1) ||| r81), .int 0]) (rest := [.ref q61_55]) ⟨hx, hb, hml, hown, htw⟩ (w248_met l dC dI H.size q61_55 (sa (pp k59_53).1) (((pp k59_53).2.1) ||| r81) 0 none 0 0 _ hw) (cwI 3 htw px_g248 rfl rfl rfl (htw _ px_w171) (htw _ px_w1263) (htw _ px_w1281) rfl (by decide +kernel) ⟨Nat.le_of_ble_eq_true rfl, Nat.le_of_ble_eq_true rfl⟩) ⟨fun a U g mk q => by obtain ⟨q0, q1, qP, qK, qD, qN⟩ := q; exact ⟨q0, q1, qP, va_K.moved (u := U) (U := U.calling g mk a) (Vm.Alike.refl U.vm) qK, qD, qN.same rfl⟩, fun U hU hW => ⟨rfl, by rw [hU], by rw [hU]; exact hPc, va_K.moved hW.alike hKc, hDc.weaken (fun _ _ _ _ => trivial), hN.warm hW⟩⟩ rfl rfl hl.1 rfl (lv_room (Nat.le_of_ble_eq_true rfl)) px_d259_100 ⟨hc61_55, hs61_55⟩) hS (fun q _ h => hFc q h) hFc (fun u t H1 locs ht hvm hw hB hz1 hk1 hS => ?_)
                      obtain ⟨v63, v64, v65⟩ := u
                      obtain ⟨hP1, hK1, hD1⟩ := hB
                      rw [ht] at hP1
                      obtain ⟨hP, hD⟩ := va_joinQ (wr := [(ho, .inr (1, [.ref v56, .ref q_t, .int v58])), (v56, .inl (cc.2.1, v57, .inl v59)), (q_t, .inl (cc.2.1, 182, .inl v60))]) (w1 := [(q61_55, .inr (11, [va_rf v63, .int v64, .int v65]))]) hP hD [3] [0, 1, 2] rfl rfl (by decide) (by decide) hk1 hFc hP1 hD1
                      generalize H1 = H at hP hS ⊢
                      have hP : va_P (dC, dI) vwCl (([(ho, .inr (1, [.ref v56, .ref q_t, .int v58])), (v56, .inl (cc.2.1, v57, .inl v59)), (q_t, .inl (cc.2.1, 182, .inl v60)), (q61_55, .inr (11, [va_rf v63, .int v64, .int v65]))] : va_W) ++ px_cp cc ho cm np ns hm pa sa v61 pp ss) H := hP
                      have hD : va_D A (([(ho, .inr (1, [.ref v56, .ref q_t, .int v58])), (v56, .inl (cc.2.1, v57, .inl v59)), (q_t, .inl (cc.2.1, 182, .inl v60)), (q61_55, .inr (11, [va_rf v63, .int v64, .int v65]))] : va_W) ++ px_cp cc ho cm np ns hm pa sa v61 pp ss) := hD
                      obtain ⟨hsr103, hpk103, hw⟩ := hw
                      obtain ⟨pa67, epa67⟩ : ∃ z : Nat → Nat, z = va_up pa np q61_55 := ⟨_, rfl⟩
                      obtain ⟨pp67, epp67⟩ : ∃ z : Nat → px_PR, z = va_up pp np ((pp k59_53).1, v64, v65) := ⟨_, rfl⟩
                      have hsr103 : v63 = some (sa ((pp k59_53).1)) := hsr103
                      have hpk103 : px_pok cm np v61 := hpk103
                      rw [hsr103] at hP hD
                      have hP : va_P (dC, dI) vwCl (([(ho, .inr (1, [.ref v56, .ref q_t, .int v58])), (v56, .inl (cc.2.1, v57, .inl v59)), (q_t, .inl (cc.2.1, 182, .inl v60))] : va_W) ++ px_cp cc ho cm (np + 1) ns hm pa67 sa v61 pp67 ss) H := px_pnP (X := [(ho, .inr (1, [.ref v56, .ref q_t, .int v58])), (v56, .inl (cc.2.1, v57, .inl v59)), (q_t, .inl (cc.2.1, 182, .inl v60))]) hpk103 rfl epa67 epp67 hP
                      have hD : va_D A (([(ho, .inr (1, [.ref v56, .ref q_t, .int v58])), (v56, .inl (cc.2.1, v57, .inl v59)), (q_t, .inl (cc.2.1, 182, .inl v60))] : va_W) ++ px_cp cc ho cm (np + 1) ns hm pa67 sa v61 pp67 ss) := px_pnD (X := [(ho, .inr (1, [.ref v56, .ref q_t, .int v58])), (v56, .inl (cc.2.1, v57, .inl v59)), (q_t, .inl (cc.2.1, 182, .inl v60))]) hpk103 rfl epa67 epp67 hD
                      have hw := hw pa67 pp67 epa67 epp67
                      obtain ⟨ho103_0, hw⟩ := hw
                      rw [show pa a12_28 = pa67 a12_28 by rw [epa67, va_up_ne _ _ (Nat.ne_of_lt ho103_0)]] at hl
                      obtain ⟨ho103_1, hw⟩ := hw
                      rw [show pa k59_53 = pa67 k59_53 by rw [epa67, va_up_ne _ _ (Nat.ne_of_lt ho103_1)]] at hl
                      have eq103 : q61_55 = pa67 np := by rw [epa67, va_up_self]
                      rw [eq103]
                      refine lv_astore (lv' := [(7, .ref (pa67 np)), (6, .ref (pa67 k59_53)), (0, .ref (hm a0x)), (1, .ref (hm a1x)), (2, .int x2), (3, .int x3), (4, .int x4), (5, .int x5), (8, .int x8), (9, .int x9)]) hx hb px_d259_103 hl (by decide) rfl (fun ls hl => ?_)
                      exact S105 x2 x3 x4 x5 (some k59_53) (some np) x8 x9 v56 v57 v58 v59 v60 v61 (np + 1) pa67 pp67 (kc + 1) (ks + 3) H locs ls hc61_55 hs61_55 hP hD hS (lv_sub hl [2, 3, 4, 5, 6, 7, 1, 0, 8, 9] rfl) hw
                    · have hw := hw.2 c92
                      refine lv_iconst (v := 1) hx hb px_d259_95 (by decide) ?_
                      refine lv_goto (tgt := 100) hx hb px_d259_96 (by decide) ?_
                      have hPc := hP.sub (ws' := [(q61_55, .inr (11, [.null, .int 0, .int 0]))]) [3] rfl
                      have hDc := hD.sub (ws' := [(q61_55, .inr (11, [.null, .int 0, .int 0]))]) [3] (by decide) rfl
                      have hFc := va_free (wc := [(q61_55, .inr (11, [.null, .int 0, .int 0]))]) hD hS hA [3] rfl
                      have hKc := hK.sub (tys' := []) [] rfl
                      refine va_callv (va_runI (As := [.ref (sa (pp k59_53).1), .int (((pp k59_53).2.1) ||| r81), .int 1]) (rest := [.ref q61_55]) ⟨hx, hb, hml, hown, htw⟩ (w248_met l dC dI H.size q61_55 (sa (pp k59_53).1) (((pp k59_53).2.1) ||| r81) 1 none 0 0 _ hw) (cwI 3 htw px_g248 rfl rfl rfl (htw _ px_w171) (htw _ px_w1263) (htw _ px_w1281) rfl (by decide +kernel) ⟨Nat.le_of_ble_eq_true rfl, Nat.le_of_ble_eq_true rfl⟩) ⟨fun a U g mk q => by obtain ⟨q0, q1, qP, qK, qD, qN⟩ := q; exact ⟨q0, q1, qP, va_K.moved (u := U) (U := U.calling g mk a) (Vm.Alike.refl U.vm) qK, qD, qN.same rfl⟩, fun U hU hW => ⟨rfl, by rw [hU], by rw [hU]; exact hPc, va_K.moved hW.alike hKc, hDc.weaken (fun _ _ _ _ => trivial), hN.warm hW⟩⟩ rfl rfl hl.1 rfl (lv_room (Nat.le_of_ble_eq_true rfl)) px_d259_100 ⟨hc61_55, hs61_55⟩) hS (fun q _ h => hFc q h) hFc (fun u t H1 locs ht hvm hw hB hz1 hk1 hS => ?_)
                      obtain ⟨v68, v69, v70⟩ := u
                      obtain ⟨hP1, hK1, hD1⟩ := hB
                      rw [ht] at hP1
                      obtain ⟨hP, hD⟩ := va_joinQ (wr := [(ho, .inr (1, [.ref v56, .ref q_t, .int v58])), (v56, .inl (cc.2.1, v57, .inl v59)), (q_t, .inl (cc.2.1, 182, .inl v60))]) (w1 := [(q61_55, .inr (11, [va_rf v68, .int v69, .int v70]))]) hP hD [3] [0, 1, 2] rfl rfl (by decide) (by decide) hk1 hFc hP1 hD1
                      generalize H1 = H at hP hS ⊢
                      have hP : va_P (dC, dI) vwCl (([(ho, .inr (1, [.ref v56, .ref q_t, .int v58])), (v56, .inl (cc.2.1, v57, .inl v59)), (q_t, .inl (cc.2.1, 182, .inl v60)), (q61_55, .inr (11, [va_rf v68, .int v69, .int v70]))] : va_W) ++ px_cp cc ho cm np ns hm pa sa v61 pp ss) H := hP
                      have hD : va_D A (([(ho, .inr (1, [.ref v56, .ref q_t, .int v58])), (v56, .inl (cc.2.1, v57, .inl v59)), (q_t, .inl (cc.2.1, 182, .inl v60)), (q61_55, .inr (11, [va_rf v68, .int v69, .int v70]))] : va_W) ++ px_cp cc ho cm np ns hm pa sa v61 pp ss) := hD
                      obtain ⟨hsr103, hpk103, hw⟩ := hw
                      obtain ⟨pa72, epa72⟩ : ∃ z : Nat → Nat, z = va_up pa np q61_55 := ⟨_, rfl⟩
                      obtain ⟨pp72, epp72⟩ : ∃ z : Nat → px_PR, z = va_up pp np ((pp k59_53).1, v69, v70) := ⟨_, rfl⟩
                      have hsr103 : v68 = some (sa ((pp k59_53).1)) := hsr103
                      have hpk103 : px_pok cm np v61 := hpk103
                      rw [hsr103] at hP hD
                      have hP : va_P (dC, dI) vwCl (([(ho, .inr (1, [.ref v56, .ref q_t, .int v58])), (v56, .inl (cc.2.1, v57, .inl v59)), (q_t, .inl (cc.2.1, 182, .inl v60))] : va_W) ++ px_cp cc ho cm (np + 1) ns hm pa72 sa v61 pp72 ss) H := px_pnP (X := [(ho, .inr (1, [.ref v56, .ref q_t, .int v58])), (v56, .inl (cc.2.1, v57, .inl v59)), (q_t, .inl (cc.2.1, 182, .inl v60))]) hpk103 rfl epa72 epp72 hP
                      have hD : va_D A (([(ho, .inr (1, [.ref v56, .ref q_t, .int v58])), (v56, .inl (cc.2.1, v57, .inl v59)), (q_t, .inl (cc.2.1, 182, .inl v60))] : va_W) ++ px_cp cc ho cm (np + 1) ns hm pa72 sa v61 pp72 ss) := px_pnD (X := [(ho, .inr (1, [.ref v56, .ref q_t, .int v58])), (v56, .inl (cc.2.1, v57, .inl v59)), (q_t, .inl (cc.2.1, 182, .inl v60))]) hpk103 rfl epa72 epp72 hD
                      have hw := hw pa72 pp72 epa72 epp72
                      obtain ⟨ho103_0, hw⟩ := hw
                      rw [show pa a12_28 = pa72 a12_28 by rw [epa72, va_up_ne _ _ (Nat.ne_of_lt ho103_0)]] at hl
                      obtain ⟨ho103_1, hw⟩ := hw
                      rw [show pa k59_53 = pa72 k59_53 by rw [epa72, va_up_ne _ _ (Nat.ne_of_lt ho103_1)]] at hl
                      have eq103 : q61_55 = pa72 np := by rw [epa72, va_up_self]
                      rw [eq103]
                      refine lv_astore (lv' := [(7, .ref (pa72 np)), (6, .ref (pa72 k59_53)), (0, .ref (hm a0x)), (1, .ref (hm a1x)), (2, .int x2), (3, .int x3), (4, .int x4), (5, .int x5), (8, .int x8), (9, .int x9)]) hx hb px_d259_103 hl (by decide) rfl (fun ls hl => ?_)
                      exact S105 x2 x3 x4 x5 (some k59_53) (some np) x8 x9 v56 v57 v58 v59 v60 v61 (np + 1) pa72 pp72 (kc + 1) (ks + 3) H locs ls hc61_55 hs61_55 hP hD hS (lv_sub hl [2, 3, 4, 5, 6, 7, 1, 0, 8, 9] rfl) hw
      | some a12_27 =>
        have hw := hw.2 a12_27 rfl
        have hP : va_P (dC, dI) vwCl (([(ho, .inr (1, [.ref q_o, .ref q_t, .int o_reached])), (q_o, .inl (cc.2.1, l_o, .inl g_o)), (q_t, .inl (cc.2.1, 182, .inl g_t))] : va_W) ++ px_cp cc ho cm np ns hm pa sa mm pp ss) H := hP
        have hD : va_D A (([(ho, .inr (1, [.ref q_o, .ref q_t, .int o_reached])), (q_o, .inl (cc.2.1, l_o, .inl g_o)), (q_t, .inl (cc.2.1, 182, .inl g_t))] : va_W) ++ px_cp cc ho cm np ns hm pa sa mm pp ss) := hD
        have hl : lv_has ls 10 [(0, .ref (hm a0x)), (1, .ref (hm a1x)), (2, .int x2), (3, .int x3), (4, .int x4), (5, .int x5), (6, .ref (pa a12_27)), (7, va_rf (Option.map pa x7)), (8, .int x8), (9, .int x9)] := hl
        refine W.eq (g2 := F0 m 12 ls []) rfl ?_
        cases x7 with
        | none =>
          have hw := hw.1 rfl
          have hP : va_P (dC, dI) vwCl (([(ho, .inr (1, [.ref q_o, .ref q_t, .int o_reached])), (q_o, .inl (cc.2.1, l_o, .inl g_o)), (q_t, .inl (cc.2.1, 182, .inl g_t))] : va_W) ++ px_cp cc ho cm np ns hm pa sa mm pp ss) H := hP
          have hD : va_D A (([(ho, .inr (1, [.ref q_o, .ref q_t, .int o_reached])), (q_o, .inl (cc.2.1, l_o, .inl g_o)), (q_t, .inl (cc.2.1, 182, .inl g_t))] : va_W) ++ px_cp cc ho cm np ns hm pa sa mm pp ss) := hD
          have hl : lv_has ls 10 [(0, .ref (hm a0x)), (1, .ref (hm a1x)), (2, .int x2), (3, .int x3), (4, .int x4), (5, .int x5), (6, .ref (pa a12_27)), (7, .null), (8, .int x8), (9, .int x9)] := hl
          refine W.eq (g2 := F0 m 12 ls []) rfl ?_
          refine lv_iload hx hb px_d259_12 (lv_at hl 9 rfl) ?_
          refine lv_aload_n hx hb px_d259_14 rfl (lv_at hl 1 rfl) ?_
          obtain ⟨hp15, hw⟩ := hw
          refine va_get (D := (dC, dI)) (ci := 10) (v := .int ((mm a1x).2.1 13)) (C := "MatroidDesk$Matroid") (T := px_T10) (N := 15) hx hb htw px_in10 hown hK hP (3 + (13 * a1x + 0)) (px_cg0 rfl hp15) rfl 13 (by decide) (htw _ px_w1264) (fun _ h9 => h9) rfl px_d259_15 ?_
          refine lv_icmp_ge (tgt := 137) hx hb px_d259_18 (by decide) (fun c18 => ?_) (fun c18 => ?_)
          · have hw := hw.1 c18
            refine W.widen (k := mc) (n := ms) hkc hks ?_
            rw [← hQ]
            exact W.vret hx hb hr (fun t ht hW => ⟨⟨(q_o, l_o, o_reached, g_o, g_t, mm, np, pa, pp), rfl, hw, by rw [ht]; exact hP, va_K.moved hW.alike hK, hD⟩, hS.F ht⟩) hS.2.2 px_d259_137
          · have hw := hw.2 c18
            refine lv_iload_n hx hb px_d259_21 rfl (lv_at hl 3 rfl) ?_
            refine lv_iload hx hb px_d259_22 (lv_at hl 9 rfl) ?_
            refine lv_ishr hx hb px_d259_24 ?_
            refine lv_iconst (v := 1) hx hb px_d259_25 (by decide) ?_
            refine lv_iand hx hb px_d259_26 ?_
            refine lv_if_ne (tgt := 131) hx hb px_d259_27 (by decide) (fun c27 => ?_) (fun c27 => ?_)
            · have hw := hw.1 c27
              exact S131 x2 x3 x4 x5 (some a12_27) none x8 x9 q_o l_o o_reached g_o g_t mm np pa pp kc ks H locs ls hkc hks hP hD hS (lv_sub hl [0, 1, 2, 3, 4, 5, 6, 7, 8, 9] rfl) hw
            · have hw := hw.2 c27
              refine lv_aload_n hx hb px_d259_30 rfl (lv_at hl 1 rfl) ?_
              obtain ⟨hp31, hw⟩ := hw
              refine va_get (D := (dC, dI)) (ci := 10) (v := .ref ((mm a1x).1 1)) (C := "MatroidDesk$Matroid") (T := px_T10) (N := 15) hx hb htw px_in10 hown hK hP (3 + (13 * a1x + 0)) (px_cg0 rfl hp31) rfl 1 (by decide) (htw _ px_w1000) (fun _ h9 => h9) rfl px_d259_31 ?_
              refine lv_iload hx hb px_d259_34 (lv_at hl 9 rfl) ?_
              obtain ⟨hp36, hw⟩ := hw
              obtain ⟨hi36, hw⟩ := hw
              refine va_aldq hx hb hK hP (3 + (13 * a1x + 1)) 3 (px_cg1 rfl hp36) rfl hi36 px_d259_36 ?_
              refine W.eq (g2 := F0 m 37 ls (va_rf (Option.map pa ((mm a1x).2.2.2.2.2 (Int32.toNatClampNeg x9))) :: [])) rfl ?_
              cases hz37_74 : (mm a1x).2.2.2.2.2 (Int32.toNatClampNeg x9) with
              | none =>
                have hw := hw.1 hz37_74
                refine W.eq (g2 := F0 m 37 ls (.null :: [])) rfl ?_
                refine lv_ifnullN (tgt := 105) hx hb px_d259_37 (by decide) ?_
                exact S105 x2 x3 x4 x5 (some a12_27) none x8 x9 q_o l_o o_reached g_o g_t mm np pa pp kc ks H locs ls hkc hks hP hD hS (lv_sub hl [0, 1, 2, 3, 4, 5, 6, 7, 8, 9] rfl) hw
              | some k37_74 =>
                have hw := hw.2 k37_74 hz37_74
                refine W.eq (g2 := F0 m 37 ls (.ref (pa k37_74) :: [])) rfl ?_
                refine lv_ifnull hx hb px_d259_37 ?_
                refine lv_aload_n hx hb px_d259_40 rfl (lv_at hl 1 rfl) ?_
                obtain ⟨hp41, hw⟩ := hw
                refine va_get (D := (dC, dI)) (ci := 10) (v := .ref ((mm a1x).1 1)) (C := "MatroidDesk$Matroid") (T := px_T10) (N := 15) hx hb htw px_in10 hown hK hP (3 + (13 * a1x + 0)) (px_cg0 rfl hp41) rfl 1 (by decide) (htw _ px_w1000) (fun _ h9 => h9) rfl px_d259_41 ?_
                refine lv_iload hx hb px_d259_44 (lv_at hl 9 rfl) ?_
                obtain ⟨hp46, hw⟩ := hw
                obtain ⟨hi46, hw⟩ := hw
                refine va_aldq hx hb hK hP (3 + (13 * a1x + 1)) 3 (px_cg1 rfl hp46) rfl hi46 px_d259_46 ?_
                refine W.eq (g2 := F0 m 47 ls (va_rf (Option.map pa ((mm a1x).2.2.2.2.2 (Int32.toNatClampNeg x9))) :: [])) rfl ?_
                cases hz47_75 : (mm a1x).2.2.2.2.2 (Int32.toNatClampNeg x9) with
                | none =>
                  have hw := hw.1 hz47_75
                  refine W.eq (g2 := F0 m 47 ls (.null :: [])) rfl ?_
                  refine lv_aload hx hb px_d259_47 (lv_at hl 6 rfl) ?_
                  refine lv_acmp_eq (rx := none) (ry := some (pa a12_27)) (tgt := 105) hx hb px_d259_49 (by decide) (fun h9 => absurd h9 (by simp)) (fun _ => ?_)
                  refine lv_aload_n hx hb px_d259_52 rfl (lv_at hl 1 rfl) ?_
                  obtain ⟨hp53, hw⟩ := hw
                  refine va_get (D := (dC, dI)) (ci := 10) (v := .ref ((mm a1x).1 1)) (C := "MatroidDesk$Matroid") (T := px_T10) (N := 15) hx hb htw px_in10 hown hK hP (3 + (13 * a1x + 0)) (px_cg0 rfl hp53) rfl 1 (by decide) (htw _ px_w1000) (fun _ h9 => h9) rfl px_d259_53 ?_
                  refine lv_iload hx hb px_d259_56 (lv_at hl 9 rfl) ?_
                  obtain ⟨hp58, hw⟩ := hw
                  obtain ⟨hi58, hw⟩ := hw
                  refine va_aldq hx hb hK hP (3 + (13 * a1x + 1)) 3 (px_cg1 rfl hp58) rfl hi58 px_d259_58 ?_
                  refine W.eq (g2 := F0 m 59 ls (va_rf (Option.map pa ((mm a1x).2.2.2.2.2 (Int32.toNatClampNeg x9))) :: [])) rfl ?_
                  cases hz59_76 : (mm a1x).2.2.2.2.2 (Int32.toNatClampNeg x9) with
                  | none =>
                    have hw := hw.1 hz59_76
                    refine W.eq (g2 := F0 m 59 ls (.null :: [])) rfl ?_
                    refine lv_astoreN (lv' := [(6, .null), (0, .ref (hm a0x)), (1, .ref (hm a1x)), (2, .int x2), (3, .int x3), (4, .int x4), (5, .int x5), (7, .null), (8, .int x8), (9, .int x9)]) hx hb px_d259_59 hl (by decide) rfl (fun ls hl => ?_)
                    obtain ⟨hc61_77, hs61_77, hw⟩ := hw
                    refine va_new (ci := 11) (fs := [.null, .int 0, .int 0]) (C := "MatroidDesk$Part") (T := px_T11) (N := 3) hx hb htw px_in11 px_ty11 px_tyok11 hown (htw _ px_w999) (htw _ px_w172) (htw _ px_w171) hK hP hD hS hA rfl px_df11 hc61_77 hs61_77 px_d259_61 (fun q61_77 H hP hD hS => ?_)
                    have hw := hw q61_77
                    have hP := hP.swap
                    have hD := hD.swap
                    have hP : va_P (dC, dI) vwCl (([(ho, .inr (1, [.ref q_o, .ref q_t, .int o_reached])), (q_o, .inl (cc.2.1, l_o, .inl g_o)), (q_t, .inl (cc.2.1, 182, .inl g_t)), (q61_77, .inr (11, [.null, .int 0, .int 0]))] : va_W) ++ px_cp cc ho cm np ns hm pa sa mm pp ss) H := hP
                    have hD : va_D A (([(ho, .inr (1, [.ref q_o, .ref q_t, .int o_reached])), (q_o, .inl (cc.2.1, l_o, .inl g_o)), (q_t, .inl (cc.2.1, 182, .inl g_t)), (q61_77, .inr (11, [.null, .int 0, .int 0]))] : va_W) ++ px_cp cc ho cm np ns hm pa sa mm pp ss) := hD
                    refine lv_dup hx hb px_d259_64 rfl ?_
                    refine lv_aloadN hx hb px_d259_65 (lv_at hl 0 rfl) ?_
                    exact False.elim hw
                  | some k59_76 =>
                    have hw := hw.2 k59_76 hz59_76
                    refine W.eq (g2 := F0 m 59 ls (.ref (pa k59_76) :: [])) rfl ?_
                    refine lv_astore (lv' := [(6, .ref (pa k59_76)), (0, .ref (hm a0x)), (1, .ref (hm a1x)), (2, .int x2), (3, .int x3), (4, .int x4), (5, .int x5), (7, .null), (8, .int x8), (9, .int x9)]) hx hb px_d259_59 hl (by decide) rfl (fun ls hl => ?_)
                    obtain ⟨hc61_78, hs61_78, hw⟩ := hw
                    refine va_new (ci := 11) (fs := [.null, .int 0, .int 0]) (C := "MatroidDesk$Part") (T := px_T11) (N := 3) hx hb htw px_in11 px_ty11 px_tyok11 hown (htw _ px_w999) (htw _ px_w172) (htw _ px_w171) hK hP hD hS hA rfl px_df11 hc61_78 hs61_78 px_d259_61 (fun q61_78 H hP hD hS => ?_)
                    have hw := hw q61_78
                    have hP := hP.swap
                    have hD := hD.swap
                    have hP : va_P (dC, dI) vwCl (([(ho, .inr (1, [.ref q_o, .ref q_t, .int o_reached])), (q_o, .inl (cc.2.1, l_o, .inl g_o)), (q_t, .inl (cc.2.1, 182, .inl g_t)), (q61_78, .inr (11, [.null, .int 0, .int 0]))] : va_W) ++ px_cp cc ho cm np ns hm pa sa mm pp ss) H := hP
                    have hD : va_D A (([(ho, .inr (1, [.ref q_o, .ref q_t, .int o_reached])), (q_o, .inl (cc.2.1, l_o, .inl g_o)), (q_t, .inl (cc.2.1, 182, .inl g_t)), (q61_78, .inr (11, [.null, .int 0, .int 0]))] : va_W) ++ px_cp cc ho cm np ns hm pa sa mm pp ss) := hD
                    refine lv_dup hx hb px_d259_64 rfl ?_
                    refine lv_aload hx hb px_d259_65 (lv_at hl 0 rfl) ?_
                    obtain ⟨hpp67, hw⟩ := hw
                    refine va_getN (D := (dC, dI)) (ci := 11) (v := .ref (sa (pp k59_76).1)) (C := "MatroidDesk$Part") (T := px_T11) (N := 3) hx hb htw px_in11 hown hK hP (4 + (13 * cm + k59_76)) (px_gp rfl hpp67) rfl 0 (by decide) (va_Nw.use (w := .fieldLinkNest "MatroidDesk$Matroid" 162 "MatroidDesk$Part" "source" "LMatroidDesk$Source;" "MatroidDesk") rfl (hN.1 ("MatroidDesk$Matroid", 162, "MatroidDesk$Part", "source", "LMatroidDesk$Source;", "MatroidDesk") px_nf22)) (fun _ h9 => h9) rfl px_d259_67 ?_
                    refine lv_aload hx hb px_d259_70 (lv_at hl 0 rfl) ?_
                    obtain ⟨hpp72, hw⟩ := hw
                    refine va_getN (D := (dC, dI)) (ci := 11) (v := .int ((pp k59_76).2.1)) (C := "MatroidDesk$Part") (T := px_T11) (N := 3) hx hb htw px_in11 hown hK hP (4 + (13 * cm + k59_76)) (px_gp rfl hpp72) rfl 1 (by decide) (va_Nw.use (w := .fieldLinkNest "MatroidDesk$Matroid" 147 "MatroidDesk$Part" "held" "I" "MatroidDesk") rfl (hN.1 ("MatroidDesk$Matroid", 147, "MatroidDesk$Part", "held", "I", "MatroidDesk") px_nf23)) (fun _ h9 => h9) rfl px_d259_72 ?_
                    refine lv_aload_n hx hb px_d259_75 rfl (lv_at hl 2 rfl) ?_
                    refine lv_aload hx hb px_d259_76 (lv_at hl 0 rfl) ?_
                    refine lv_iload_n hx hb px_d259_78 rfl (lv_at hl 4 rfl) ?_
                    refine lv_iload hx hb px_d259_79 (lv_at hl 5 rfl) ?_
                    obtain ⟨hp81, hw⟩ := hw
                    have hPc := hP.part (cx := [(ho, .inr (1, [.ref q_o, .ref q_t, .int o_reached])), (q_o, .inl (cc.2.1, l_o, .inl g_o)), (q_t, .inl (cc.2.1, 182, .inl g_t))]) [0, 1, 2] rfl
                    have hDc := hD.part (cx := [(ho, .inr (1, [.ref q_o, .ref q_t, .int o_reached])), (q_o, .inl (cc.2.1, l_o, .inl g_o)), (q_t, .inl (cc.2.1, 182, .inl g_t))]) [0, 1, 2] (by decide) rfl
                    have hFc := va_freeP (cx := [(ho, .inr (1, [.ref q_o, .ref q_t, .int o_reached])), (q_o, .inl (cc.2.1, l_o, .inl g_o)), (q_t, .inl (cc.2.1, 182, .inl g_t))]) hD hS hA [0, 1, 2] rfl
                    have hKc := hK.sub (tys' := [(cc.2.1, .int), (cc.2.2.2.1, .byte), (cc.2.2.2.2, .long), (cc.1, .object "MatroidDesk$Part"), (cc.2.2.1, (.array .int))]) [0, 1, 2, 3, 4] rfl
                    refine va_calli (va_runV (As := [.ref (pa k59_76), .int x3, .int x4]) (rest := [.int ((pp k59_76).2.1), .ref (sa (pp k59_76).1), .ref q61_78, .ref q61_78]) ⟨hx, hb, hml, hown, htw⟩ (w260_met l dC dI H.size ho q_t a1x cc cm np ns hm pa sa pp ss k59_76 x3 x4 q_o l_o o_reached g_o g_t mm _ hw) (cwV 3 htw (px_gv px_w1328 px_w1330 px_w1331 px_w154 px_g260) rfl rfl rfl (by decide +kernel) ⟨Nat.le_of_ble_eq_true rfl, Nat.le_of_ble_eq_true rfl⟩) ⟨fun a U g mk q => by obtain ⟨q0, q1, qP, qK, qD, qN⟩ := q; exact ⟨q0, q1, qP, va_K.moved (u := U) (U := U.calling g mk a) (Vm.Alike.refl U.vm) qK, qD, qN.same rfl⟩, va_recv hK hP (ci := 10) (q0 := (4 + (13 * a1x + 0))) rfl (px_cg0 rfl hp81), fun U hU hW => ⟨rfl, by rw [hU], by rw [hU]; exact hPc, va_K.moved hW.alike hKc, hDc.weaken (fun _ _ _ _ => trivial), hN.warm hW⟩⟩ rfl rfl hl.1 rfl (lv_room (Nat.le_of_ble_eq_true rfl)) px_d259_81 ⟨hc61_78, hs61_78⟩) hS (fun q _ h => hFc q h) hFc (fun r81 u t H1 locs ht hvm hw hB hz1 hk1 hS => ?_)
                    obtain ⟨v79, v80, v81, v82, v83, v84⟩ := u
                    obtain ⟨hP1, hK1, hD1⟩ := hB
                    rw [ht] at hP1
                    obtain ⟨hP, hD⟩ := va_joinP (wr := [(q61_78, .inr (11, [.null, .int 0, .int 0]))]) (rx := [(ho, .inr (1, [.ref v79, .ref q_t, .int v81])), (v79, .inl (cc.2.1, v80, .inl v82)), (q_t, .inl (cc.2.1, 182, .inl v83))]) hP hD [0, 1, 2] [3] rfl rfl (by decide) (by decide) hk1 hFc hP1 hD1
                    generalize H1 = H at hP hS ⊢
                    have hP : va_P (dC, dI) vwCl (([(q61_78, .inr (11, [.null, .int 0, .int 0])), (ho, .inr (1, [.ref v79, .ref q_t, .int v81])), (v79, .inl (cc.2.1, v80, .inl v82)), (q_t, .inl (cc.2.1, 182, .inl v83))] : va_W) ++ px_cp cc ho cm np ns hm pa sa v84 pp ss) H := hP
                    have hD : va_D A (([(q61_78, .inr (11, [.null, .int 0, .int 0])), (ho, .inr (1, [.ref v79, .ref q_t, .int v81])), (v79, .inl (cc.2.1, v80, .inl v82)), (q_t, .inl (cc.2.1, 182, .inl v83))] : va_W) ++ px_cp cc ho cm np ns hm pa sa v84 pp ss) := hD
                    have hP := hP.part (cx := [(ho, .inr (1, [.ref v79, .ref q_t, .int v81])), (v79, .inl (cc.2.1, v80, .inl v82)), (q_t, .inl (cc.2.1, 182, .inl v83)), (q61_78, .inr (11, [.null, .int 0, .int 0]))]) [1, 2, 3, 0] rfl
                    have hD := hD.part (cx := [(ho, .inr (1, [.ref v79, .ref q_t, .int v81])), (v79, .inl (cc.2.1, v80, .inl v82)), (q_t, .inl (cc.2.1, 182, .inl v83)), (q61_78, .inr (11, [.null, .int 0, .int 0]))]) [1, 2, 3, 0] (by decide) rfl
                    refine lv_ior hx hb px_d259_84 ?_
                    refine lv_aload hx hb px_d259_85 (lv_at hl 0 rfl) ?_
                    obtain ⟨hpp87, hw⟩ := hw
                    refine va_getN (D := (dC, dI)) (ci := 11) (v := .int ((pp k59_76).2.2)) (C := "MatroidDesk$Part") (T := px_T11) (N := 3) hx hb htw px_in11 hown hK hP (4 + (13 * cm + k59_76)) (px_gp rfl hpp87) rfl 2 (by decide) (va_Nw.use (w := .fieldLinkNest "MatroidDesk$Matroid" 150 "MatroidDesk$Part" "turned" "Z" "MatroidDesk") rfl (hN.1 ("MatroidDesk$Matroid", 150, "MatroidDesk$Part", "turned", "Z", "MatroidDesk") px_nf24)) (fun _ h9 => h9) rfl px_d259_87 ?_
                    refine lv_iload hx hb px_d259_90 (lv_at hl 6 rfl) ?_
                    refine lv_icmp_eq (tgt := 99) hx hb px_d259_92 (by decide) (fun c92 => ?_) (fun c92 => ?_)
                    · have hw := hw.1 c92
                      refine lv_iconst (v := 0) hx hb px_d259_99 (by decide) ?_
                      have hPc := hP.sub (ws' := [(q61_78, .inr (11, [.null, .int 0, .int 0]))]) [3] rfl
                      have hDc := hD.sub (ws' := [(q61_78, .inr (11, [.null, .int 0, .int 0]))]) [3] (by decide) rfl
                      have hFc := va_free (wc := [(q61_78, .inr (11, [.null, .int 0, .int 0]))]) hD hS hA [3] rfl
                      have hKc := hK.sub (tys' := []) [] rfl
                      refine va_callv (va_runI (As := [.ref (sa (pp k59_76).1), .int (((pp k59_76).2.1) ||| r81), .int 0]) (rest := [.ref q61_78]) ⟨hx, hb, hml, hown, htw⟩ (w248_met l dC dI H.size q61_78 (sa (pp k59_76).1) (((pp k59_76).2.1) ||| r81) 0 none 0 0 _ hw) (cwI 3 htw px_g248 rfl rfl rfl (htw _ px_w171) (htw _ px_w1263) (htw _ px_w1281) rfl (by decide +kernel) ⟨Nat.le_of_ble_eq_true rfl, Nat.le_of_ble_eq_true rfl⟩) ⟨fun a U g mk q => by obtain ⟨q0, q1, qP, qK, qD, qN⟩ := q; exact ⟨q0, q1, qP, va_K.moved (u := U) (U := U.calling g mk a) (Vm.Alike.refl U.vm) qK, qD, qN.same rfl⟩, fun U hU hW => ⟨rfl, by rw [hU], by rw [hU]; exact hPc, va_K.moved hW.alike hKc, hDc.weaken (fun _ _ _ _ => trivial), hN.warm hW⟩⟩ rfl rfl hl.1 rfl (lv_room (Nat.le_of_ble_eq_true rfl)) px_d259_100 ⟨hc61_78, hs61_78⟩) hS (fun q _ h => hFc q h) hFc (fun u t H1 locs ht hvm hw hB hz1 hk1 hS => ?_)
                      obtain ⟨v86, v87, v88⟩ := u
                      obtain ⟨hP1, hK1, hD1⟩ := hB
                      rw [ht] at hP1
                      obtain ⟨hP, hD⟩ := va_joinQ (wr := [(ho, .inr (1, [.ref v79, .ref q_t, .int v81])), (v79, .inl (cc.2.1, v80, .inl v82)), (q_t, .inl (cc.2.1, 182, .inl v83))]) (w1 := [(q61_78, .inr (11, [va_rf v86, .int v87, .int v88]))]) hP hD [3] [0, 1, 2] rfl rfl (by decide) (by decide) hk1 hFc hP1 hD1
                      generalize H1 = H at hP hS ⊢
                      have hP : va_P (dC, dI) vwCl (([(ho, .inr (1, [.ref v79, .ref q_t, .int v81])), (v79, .inl (cc.2.1, v80, .inl v82)), (q_t, .inl (cc.2.1, 182, .inl v83)), (q61_78, .inr (11, [va_rf v86, .int v87, .int v88]))] : va_W) ++ px_cp cc ho cm np ns hm pa sa v84 pp ss) H := hP
                      have hD : va_D A (([(ho, .inr (1, [.ref v79, .ref q_t, .int v81])), (v79, .inl (cc.2.1, v80, .inl v82)), (q_t, .inl (cc.2.1, 182, .inl v83)), (q61_78, .inr (11, [va_rf v86, .int v87, .int v88]))] : va_W) ++ px_cp cc ho cm np ns hm pa sa v84 pp ss) := hD
                      obtain ⟨hsr103, hpk103, hw⟩ := hw
                      obtain ⟨pa90, epa90⟩ : ∃ z : Nat → Nat, z = va_up pa np q61_78 := ⟨_, rfl⟩
                      obtain ⟨pp90, epp90⟩ : ∃ z : Nat → px_PR, z = va_up pp np ((pp k59_76).1, v87, v88) := ⟨_, rfl⟩
                      have hsr103 : v86 = some (sa ((pp k59_76).1)) := hsr103
                      have hpk103 : px_pok cm np v84 := hpk103
                      rw [hsr103] at hP hD
                      have hP : va_P (dC, dI) vwCl (([(ho, .inr (1, [.ref v79, .ref q_t, .int v81])), (v79, .inl (cc.2.1, v80, .inl v82)), (q_t, .inl (cc.2.1, 182, .inl v83))] : va_W) ++ px_cp cc ho cm (np + 1) ns hm pa90 sa v84 pp90 ss) H := px_pnP (X := [(ho, .inr (1, [.ref v79, .ref q_t, .int v81])), (v79, .inl (cc.2.1, v80, .inl v82)), (q_t, .inl (cc.2.1, 182, .inl v83))]) hpk103 rfl epa90 epp90 hP
                      have hD : va_D A (([(ho, .inr (1, [.ref v79, .ref q_t, .int v81])), (v79, .inl (cc.2.1, v80, .inl v82)), (q_t, .inl (cc.2.1, 182, .inl v83))] : va_W) ++ px_cp cc ho cm (np + 1) ns hm pa90 sa v84 pp90 ss) := px_pnD (X := [(ho, .inr (1, [.ref v79, .ref q_t, .int v81])), (v79, .inl (cc.2.1, v80, .inl v82)), (q_t, .inl (cc.2.1, 182, .inl v83))]) hpk103 rfl epa90 epp90 hD
                      have hw := hw pa90 pp90 epa90 epp90
                      obtain ⟨ho103_0, hw⟩ := hw
                      rw [show pa k59_76 = pa90 k59_76 by rw [epa90, va_up_ne _ _ (Nat.ne_of_lt ho103_0)]] at hl
                      have eq103 : q61_78 = pa90 np := by rw [epa90, va_up_self]
                      rw [eq103]
                      refine lv_astore (lv' := [(7, .ref (pa90 np)), (6, .ref (pa90 k59_76)), (0, .ref (hm a0x)), (1, .ref (hm a1x)), (2, .int x2), (3, .int x3), (4, .int x4), (5, .int x5), (8, .int x8), (9, .int x9)]) hx hb px_d259_103 hl (by decide) rfl (fun ls hl => ?_)
                      exact S105 x2 x3 x4 x5 (some k59_76) (some np) x8 x9 v79 v80 v81 v82 v83 v84 (np + 1) pa90 pp90 (kc + 1) (ks + 3) H locs ls hc61_78 hs61_78 hP hD hS (lv_sub hl [2, 3, 4, 5, 6, 7, 1, 0, 8, 9] rfl) hw
                    · have hw := hw.2 c92
                      refine lv_iconst (v := 1) hx hb px_d259_95 (by decide) ?_
                      refine lv_goto (tgt := 100) hx hb px_d259_96 (by decide) ?_
                      have hPc := hP.sub (ws' := [(q61_78, .inr (11, [.null, .int 0, .int 0]))]) [3] rfl
                      have hDc := hD.sub (ws' := [(q61_78, .inr (11, [.null, .int 0, .int 0]))]) [3] (by decide) rfl
                      have hFc := va_free (wc := [(q61_78, .inr (11, [.null, .int 0, .int 0]))]) hD hS hA [3] rfl
                      have hKc := hK.sub (tys' := []) [] rfl
                      refine va_callv (va_runI (As := [.ref (sa (pp k59_76).1), .int (((pp k59_76).2.1) ||| r81), .int 1]) (rest := [.ref q61_78]) ⟨hx, hb, hml, hown, htw⟩ (w248_met l dC dI H.size q61_78 (sa (pp k59_76).1) (((pp k59_76).2.1) ||| r81) 1 none 0 0 _ hw) (cwI 3 htw px_g248 rfl rfl rfl (htw _ px_w171) (htw _ px_w1263) (htw _ px_w1281) rfl (by decide +kernel) ⟨Nat.le_of_ble_eq_true rfl, Nat.le_of_ble_eq_true rfl⟩) ⟨fun a U g mk q => by obtain ⟨q0, q1, qP, qK, qD, qN⟩ := q; exact ⟨q0, q1, qP, va_K.moved (u := U) (U := U.calling g mk a) (Vm.Alike.refl U.vm) qK, qD, qN.same rfl⟩, fun U hU hW => ⟨rfl, by rw [hU], by rw [hU]; exact hPc, va_K.moved hW.alike hKc, hDc.weaken (fun _ _ _ _ => trivial), hN.warm hW⟩⟩ rfl rfl hl.1 rfl (lv_room (Nat.le_of_ble_eq_true rfl)) px_d259_100 ⟨hc61_78, hs61_78⟩) hS (fun q _ h => hFc q h) hFc (fun u t H1 locs ht hvm hw hB hz1 hk1 hS => ?_)
                      obtain ⟨v91, v92, v93⟩ := u
                      obtain ⟨hP1, hK1, hD1⟩ := hB
                      rw [ht] at hP1
                      obtain ⟨hP, hD⟩ := va_joinQ (wr := [(ho, .inr (1, [.ref v79, .ref q_t, .int v81])), (v79, .inl (cc.2.1, v80, .inl v82)), (q_t, .inl (cc.2.1, 182, .inl v83))]) (w1 := [(q61_78, .inr (11, [va_rf v91, .int v92, .int v93]))]) hP hD [3] [0, 1, 2] rfl rfl (by decide) (by decide) hk1 hFc hP1 hD1
                      generalize H1 = H at hP hS ⊢
                      have hP : va_P (dC, dI) vwCl (([(ho, .inr (1, [.ref v79, .ref q_t, .int v81])), (v79, .inl (cc.2.1, v80, .inl v82)), (q_t, .inl (cc.2.1, 182, .inl v83)), (q61_78, .inr (11, [va_rf v91, .int v92, .int v93]))] : va_W) ++ px_cp cc ho cm np ns hm pa sa v84 pp ss) H := hP
                      have hD : va_D A (([(ho, .inr (1, [.ref v79, .ref q_t, .int v81])), (v79, .inl (cc.2.1, v80, .inl v82)), (q_t, .inl (cc.2.1, 182, .inl v83)), (q61_78, .inr (11, [va_rf v91, .int v92, .int v93]))] : va_W) ++ px_cp cc ho cm np ns hm pa sa v84 pp ss) := hD
                      obtain ⟨hsr103, hpk103, hw⟩ := hw
                      obtain ⟨pa95, epa95⟩ : ∃ z : Nat → Nat, z = va_up pa np q61_78 := ⟨_, rfl⟩
                      obtain ⟨pp95, epp95⟩ : ∃ z : Nat → px_PR, z = va_up pp np ((pp k59_76).1, v92, v93) := ⟨_, rfl⟩
                      have hsr103 : v91 = some (sa ((pp k59_76).1)) := hsr103
                      have hpk103 : px_pok cm np v84 := hpk103
                      rw [hsr103] at hP hD
                      have hP : va_P (dC, dI) vwCl (([(ho, .inr (1, [.ref v79, .ref q_t, .int v81])), (v79, .inl (cc.2.1, v80, .inl v82)), (q_t, .inl (cc.2.1, 182, .inl v83))] : va_W) ++ px_cp cc ho cm (np + 1) ns hm pa95 sa v84 pp95 ss) H := px_pnP (X := [(ho, .inr (1, [.ref v79, .ref q_t, .int v81])), (v79, .inl (cc.2.1, v80, .inl v82)), (q_t, .inl (cc.2.1, 182, .inl v83))]) hpk103 rfl epa95 epp95 hP
                      have hD : va_D A (([(ho, .inr (1, [.ref v79, .ref q_t, .int v81])), (v79, .inl (cc.2.1, v80, .inl v82)), (q_t, .inl (cc.2.1, 182, .inl v83))] : va_W) ++ px_cp cc ho cm (np + 1) ns hm pa95 sa v84 pp95 ss) := px_pnD (X := [(ho, .inr (1, [.ref v79, .ref q_t, .int v81])), (v79, .inl (cc.2.1, v80, .inl v82)), (q_t, .inl (cc.2.1, 182, .inl v83))]) hpk103 rfl epa95 epp95 hD
                      have hw := hw pa95 pp95 epa95 epp95
                      obtain ⟨ho103_0, hw⟩ := hw
                      rw [show pa k59_76 = pa95 k59_76 by rw [epa95, va_up_ne _ _ (Nat.ne_of_lt ho103_0)]] at hl
                      have eq103 : q61_78 = pa95 np := by rw [epa95, va_up_self]
                      rw [eq103]
                      refine lv_astore (lv' := [(7, .ref (pa95 np)), (6, .ref (pa95 k59_76)), (0, .ref (hm a0x)), (1, .ref (hm a1x)), (2, .int x2), (3, .int x3), (4, .int x4), (5, .int x5), (8, .int x8), (9, .int x9)]) hx hb px_d259_103 hl (by decide) rfl (fun ls hl => ?_)
                      exact S105 x2 x3 x4 x5 (some k59_76) (some np) x8 x9 v79 v80 v81 v82 v83 v84 (np + 1) pa95 pp95 (kc + 1) (ks + 3) H locs ls hc61_78 hs61_78 hP hD hS (lv_sub hl [2, 3, 4, 5, 6, 7, 1, 0, 8, 9] rfl) hw
                | some k47_75 =>
                  have hw := hw.2 k47_75 hz47_75
                  refine W.eq (g2 := F0 m 47 ls (.ref (pa k47_75) :: [])) rfl ?_
                  refine lv_aload hx hb px_d259_47 (lv_at hl 6 rfl) ?_
                  obtain ⟨hpp49, hw⟩ := hw
                  obtain ⟨hqq49, hw⟩ := hw
                  refine lv_acmp_eq (rx := some (pa k47_75)) (ry := some (pa a12_27)) (tgt := 105) hx hb px_d259_49 (by decide) (fun c49 => ?_) (fun c49 => ?_)
                  · have hw := hw.1 (px_painj hD hpp49 hqq49 (Option.some.inj c49))
                    exact S105 x2 x3 x4 x5 (some a12_27) none x8 x9 q_o l_o o_reached g_o g_t mm np pa pp kc ks H locs ls hkc hks hP hD hS (lv_sub hl [0, 1, 2, 3, 4, 5, 6, 7, 8, 9] rfl) hw
                  · have hw := hw.2 (fun z => c49 (congrArg (fun k => some (pa k)) z))
                    refine lv_aload_n hx hb px_d259_52 rfl (lv_at hl 1 rfl) ?_
                    obtain ⟨hp53, hw⟩ := hw
                    refine va_get (D := (dC, dI)) (ci := 10) (v := .ref ((mm a1x).1 1)) (C := "MatroidDesk$Matroid") (T := px_T10) (N := 15) hx hb htw px_in10 hown hK hP (3 + (13 * a1x + 0)) (px_cg0 rfl hp53) rfl 1 (by decide) (htw _ px_w1000) (fun _ h9 => h9) rfl px_d259_53 ?_
                    refine lv_iload hx hb px_d259_56 (lv_at hl 9 rfl) ?_
                    obtain ⟨hp58, hw⟩ := hw
                    obtain ⟨hi58, hw⟩ := hw
                    refine va_aldq hx hb hK hP (3 + (13 * a1x + 1)) 3 (px_cg1 rfl hp58) rfl hi58 px_d259_58 ?_
                    refine W.eq (g2 := F0 m 59 ls (va_rf (Option.map pa ((mm a1x).2.2.2.2.2 (Int32.toNatClampNeg x9))) :: [])) rfl ?_
                    cases hz59_96 : (mm a1x).2.2.2.2.2 (Int32.toNatClampNeg x9) with
                    | none =>
                      have hw := hw.1 hz59_96
                      refine W.eq (g2 := F0 m 59 ls (.null :: [])) rfl ?_
                      refine lv_astoreN (lv' := [(6, .null), (0, .ref (hm a0x)), (1, .ref (hm a1x)), (2, .int x2), (3, .int x3), (4, .int x4), (5, .int x5), (7, .null), (8, .int x8), (9, .int x9)]) hx hb px_d259_59 hl (by decide) rfl (fun ls hl => ?_)
                      obtain ⟨hc61_97, hs61_97, hw⟩ := hw
                      refine va_new (ci := 11) (fs := [.null, .int 0, .int 0]) (C := "MatroidDesk$Part") (T := px_T11) (N := 3) hx hb htw px_in11 px_ty11 px_tyok11 hown (htw _ px_w999) (htw _ px_w172) (htw _ px_w171) hK hP hD hS hA rfl px_df11 hc61_97 hs61_97 px_d259_61 (fun q61_97 H hP hD hS => ?_)
                      have hw := hw q61_97
                      have hP := hP.swap
                      have hD := hD.swap
                      have hP : va_P (dC, dI) vwCl (([(ho, .inr (1, [.ref q_o, .ref q_t, .int o_reached])), (q_o, .inl (cc.2.1, l_o, .inl g_o)), (q_t, .inl (cc.2.1, 182, .inl g_t)), (q61_97, .inr (11, [.null, .int 0, .int 0]))] : va_W) ++ px_cp cc ho cm np ns hm pa sa mm pp ss) H := hP
                      have hD : va_D A (([(ho, .inr (1, [.ref q_o, .ref q_t, .int o_reached])), (q_o, .inl (cc.2.1, l_o, .inl g_o)), (q_t, .inl (cc.2.1, 182, .inl g_t)), (q61_97, .inr (11, [.null, .int 0, .int 0]))] : va_W) ++ px_cp cc ho cm np ns hm pa sa mm pp ss) := hD
                      refine lv_dup hx hb px_d259_64 rfl ?_
                      refine lv_aloadN hx hb px_d259_65 (lv_at hl 0 rfl) ?_
                      exact False.elim hw
                    | some k59_96 =>
                      have hw := hw.2 k59_96 hz59_96
                      refine W.eq (g2 := F0 m 59 ls (.ref (pa k59_96) :: [])) rfl ?_
                      refine lv_astore (lv' := [(6, .ref (pa k59_96)), (0, .ref (hm a0x)), (1, .ref (hm a1x)), (2, .int x2), (3, .int x3), (4, .int x4), (5, .int x5), (7, .null), (8, .int x8), (9, .int x9)]) hx hb px_d259_59 hl (by decide) rfl (fun ls hl => ?_)
                      obtain ⟨hc61_98, hs61_98, hw⟩ := hw
                      refine va_new (ci := 11) (fs := [.null, .int 0, .int 0]) (C := "MatroidDesk$Part") (T := px_T11) (N := 3) hx hb htw px_in11 px_ty11 px_tyok11 hown (htw _ px_w999) (htw _ px_w172) (htw _ px_w171) hK hP hD hS hA rfl px_df11 hc61_98 hs61_98 px_d259_61 (fun q61_98 H hP hD hS => ?_)
                      have hw := hw q61_98
                      have hP := hP.swap
                      have hD := hD.swap
                      have hP : va_P (dC, dI) vwCl (([(ho, .inr (1, [.ref q_o, .ref q_t, .int o_reached])), (q_o, .inl (cc.2.1, l_o, .inl g_o)), (q_t, .inl (cc.2.1, 182, .inl g_t)), (q61_98, .inr (11, [.null, .int 0, .int 0]))] : va_W) ++ px_cp cc ho cm np ns hm pa sa mm pp ss) H := hP
                      have hD : va_D A (([(ho, .inr (1, [.ref q_o, .ref q_t, .int o_reached])), (q_o, .inl (cc.2.1, l_o, .inl g_o)), (q_t, .inl (cc.2.1, 182, .inl g_t)), (q61_98, .inr (11, [.null, .int 0, .int 0]))] : va_W) ++ px_cp cc ho cm np ns hm pa sa mm pp ss) := hD
                      refine lv_dup hx hb px_d259_64 rfl ?_
                      refine lv_aload hx hb px_d259_65 (lv_at hl 0 rfl) ?_
                      obtain ⟨hpp67, hw⟩ := hw
                      refine va_getN (D := (dC, dI)) (ci := 11) (v := .ref (sa (pp k59_96).1)) (C := "MatroidDesk$Part") (T := px_T11) (N := 3) hx hb htw px_in11 hown hK hP (4 + (13 * cm + k59_96)) (px_gp rfl hpp67) rfl 0 (by decide) (va_Nw.use (w := .fieldLinkNest "MatroidDesk$Matroid" 162 "MatroidDesk$Part" "source" "LMatroidDesk$Source;" "MatroidDesk") rfl (hN.1 ("MatroidDesk$Matroid", 162, "MatroidDesk$Part", "source", "LMatroidDesk$Source;", "MatroidDesk") px_nf22)) (fun _ h9 => h9) rfl px_d259_67 ?_
                      refine lv_aload hx hb px_d259_70 (lv_at hl 0 rfl) ?_
                      obtain ⟨hpp72, hw⟩ := hw
                      refine va_getN (D := (dC, dI)) (ci := 11) (v := .int ((pp k59_96).2.1)) (C := "MatroidDesk$Part") (T := px_T11) (N := 3) hx hb htw px_in11 hown hK hP (4 + (13 * cm + k59_96)) (px_gp rfl hpp72) rfl 1 (by decide) (va_Nw.use (w := .fieldLinkNest "MatroidDesk$Matroid" 147 "MatroidDesk$Part" "held" "I" "MatroidDesk") rfl (hN.1 ("MatroidDesk$Matroid", 147, "MatroidDesk$Part", "held", "I", "MatroidDesk") px_nf23)) (fun _ h9 => h9) rfl px_d259_72 ?_
                      refine lv_aload_n hx hb px_d259_75 rfl (lv_at hl 2 rfl) ?_
                      refine lv_aload hx hb px_d259_76 (lv_at hl 0 rfl) ?_
                      refine lv_iload_n hx hb px_d259_78 rfl (lv_at hl 4 rfl) ?_
                      refine lv_iload hx hb px_d259_79 (lv_at hl 5 rfl) ?_
                      obtain ⟨hp81, hw⟩ := hw
                      have hPc := hP.part (cx := [(ho, .inr (1, [.ref q_o, .ref q_t, .int o_reached])), (q_o, .inl (cc.2.1, l_o, .inl g_o)), (q_t, .inl (cc.2.1, 182, .inl g_t))]) [0, 1, 2] rfl
                      have hDc := hD.part (cx := [(ho, .inr (1, [.ref q_o, .ref q_t, .int o_reached])), (q_o, .inl (cc.2.1, l_o, .inl g_o)), (q_t, .inl (cc.2.1, 182, .inl g_t))]) [0, 1, 2] (by decide) rfl
                      have hFc := va_freeP (cx := [(ho, .inr (1, [.ref q_o, .ref q_t, .int o_reached])), (q_o, .inl (cc.2.1, l_o, .inl g_o)), (q_t, .inl (cc.2.1, 182, .inl g_t))]) hD hS hA [0, 1, 2] rfl
                      have hKc := hK.sub (tys' := [(cc.2.1, .int), (cc.2.2.2.1, .byte), (cc.2.2.2.2, .long), (cc.1, .object "MatroidDesk$Part"), (cc.2.2.1, (.array .int))]) [0, 1, 2, 3, 4] rfl
                      refine va_calli (va_runV (As := [.ref (pa k59_96), .int x3, .int x4]) (rest := [.int ((pp k59_96).2.1), .ref (sa (pp k59_96).1), .ref q61_98, .ref q61_98]) ⟨hx, hb, hml, hown, htw⟩ (w260_met l dC dI H.size ho q_t a1x cc cm np ns hm pa sa pp ss k59_96 x3 x4 q_o l_o o_reached g_o g_t mm _ hw) (cwV 3 htw (px_gv px_w1328 px_w1330 px_w1331 px_w154 px_g260) rfl rfl rfl (by decide +kernel) ⟨Nat.le_of_ble_eq_true rfl, Nat.le_of_ble_eq_true rfl⟩) ⟨fun a U g mk q => by obtain ⟨q0, q1, qP, qK, qD, qN⟩ := q; exact ⟨q0, q1, qP, va_K.moved (u := U) (U := U.calling g mk a) (Vm.Alike.refl U.vm) qK, qD, qN.same rfl⟩, va_recv hK hP (ci := 10) (q0 := (4 + (13 * a1x + 0))) rfl (px_cg0 rfl hp81), fun U hU hW => ⟨rfl, by rw [hU], by rw [hU]; exact hPc, va_K.moved hW.alike hKc, hDc.weaken (fun _ _ _ _ => trivial), hN.warm hW⟩⟩ rfl rfl hl.1 rfl (lv_room (Nat.le_of_ble_eq_true rfl)) px_d259_81 ⟨hc61_98, hs61_98⟩) hS (fun q _ h => hFc q h) hFc (fun r81 u t H1 locs ht hvm hw hB hz1 hk1 hS => ?_)
                      obtain ⟨v99, v100, v101, v102, v103, v104⟩ := u
                      obtain ⟨hP1, hK1, hD1⟩ := hB
                      rw [ht] at hP1
                      obtain ⟨hP, hD⟩ := va_joinP (wr := [(q61_98, .inr (11, [.null, .int 0, .int 0]))]) (rx := [(ho, .inr (1, [.ref v99, .ref q_t, .int v101])), (v99, .inl (cc.2.1, v100, .inl v102)), (q_t, .inl (cc.2.1, 182, .inl v103))]) hP hD [0, 1, 2] [3] rfl rfl (by decide) (by decide) hk1 hFc hP1 hD1
                      generalize H1 = H at hP hS ⊢
                      have hP : va_P (dC, dI) vwCl (([(q61_98, .inr (11, [.null, .int 0, .int 0])), (ho, .inr (1, [.ref v99, .ref q_t, .int v101])), (v99, .inl (cc.2.1, v100, .inl v102)), (q_t, .inl (cc.2.1, 182, .inl v103))] : va_W) ++ px_cp cc ho cm np ns hm pa sa v104 pp ss) H := hP
                      have hD : va_D A (([(q61_98, .inr (11, [.null, .int 0, .int 0])), (ho, .inr (1, [.ref v99, .ref q_t, .int v101])), (v99, .inl (cc.2.1, v100, .inl v102)), (q_t, .inl (cc.2.1, 182, .inl v103))] : va_W) ++ px_cp cc ho cm np ns hm pa sa v104 pp ss) := hD
                      have hP := hP.part (cx := [(ho, .inr (1, [.ref v99, .ref q_t, .int v101])), (v99, .inl (cc.2.1, v100, .inl v102)), (q_t, .inl (cc.2.1, 182, .inl v103)), (q61_98, .inr (11, [.null, .int 0, .int 0]))]) [1, 2, 3, 0] rfl
                      have hD := hD.part (cx := [(ho, .inr (1, [.ref v99, .ref q_t, .int v101])), (v99, .inl (cc.2.1, v100, .inl v102)), (q_t, .inl (cc.2.1, 182, .inl v103)), (q61_98, .inr (11, [.null, .int 0, .int 0]))]) [1, 2, 3, 0] (by decide) rfl
                      refine lv_ior hx hb px_d259_84 ?_
                      refine lv_aload hx hb px_d259_85 (lv_at hl 0 rfl) ?_
                      obtain ⟨hpp87, hw⟩ := hw
                      refine va_getN (D := (dC, dI)) (ci := 11) (v := .int ((pp k59_96).2.2)) (C := "MatroidDesk$Part") (T := px_T11) (N := 3) hx hb htw px_in11 hown hK hP (4 + (13 * cm + k59_96)) (px_gp rfl hpp87) rfl 2 (by decide) (va_Nw.use (w := .fieldLinkNest "MatroidDesk$Matroid" 150 "MatroidDesk$Part" "turned" "Z" "MatroidDesk") rfl (hN.1 ("MatroidDesk$Matroid", 150, "MatroidDesk$Part", "turned", "Z", "MatroidDesk") px_nf24)) (fun _ h9 => h9) rfl px_d259_87 ?_
                      refine lv_iload hx hb px_d259_90 (lv_at hl 6 rfl) ?_
                      refine lv_icmp_eq (tgt := 99) hx hb px_d259_92 (by decide) (fun c92 => ?_) (fun c92 => ?_)
                      · have hw := hw.1 c92
                        refine lv_iconst (v := 0) hx hb px_d259_99 (by decide) ?_
                        have hPc := hP.sub (ws' := [(q61_98, .inr (11, [.null, .int 0, .int 0]))]) [3] rfl
                        have hDc := hD.sub (ws' := [(q61_98, .inr (11, [.null, .int 0, .int 0]))]) [3] (by decide) rfl
                        have hFc := va_free (wc := [(q61_98, .inr (11, [.null, .int 0, .int 0]))]) hD hS hA [3] rfl
                        have hKc := hK.sub (tys' := []) [] rfl
                        refine va_callv (va_runI (As := [.ref (sa (pp k59_96).1), .int (((pp k59_96).2.1) ||| r81), .int 0]) (rest := [.ref q61_98]) ⟨hx, hb, hml, hown, htw⟩ (w248_met l dC dI H.size q61_98 (sa (pp k59_96).1) (((pp k59_96).2.1) ||| r81) 0 none 0 0 _ hw) (cwI 3 htw px_g248 rfl rfl rfl (htw _ px_w171) (htw _ px_w1263) (htw _ px_w1281) rfl (by decide +kernel) ⟨Nat.le_of_ble_eq_true rfl, Nat.le_of_ble_eq_true rfl⟩) ⟨fun a U g mk q => by obtain ⟨q0, q1, qP, qK, qD, qN⟩ := q; exact ⟨q0, q1, qP, va_K.moved (u := U) (U := U.calling g mk a) (Vm.Alike.refl U.vm) qK, qD, qN.same rfl⟩, fun U hU hW => ⟨rfl, by rw [hU], by rw [hU]; exact hPc, va_K.moved hW.alike hKc, hDc.weaken (fun _ _ _ _ => trivial), hN.warm hW⟩⟩ rfl rfl hl.1 rfl (lv_room (Nat.le_of_ble_eq_true rfl)) px_d259_100 ⟨hc61_98, hs61_98⟩) hS (fun q _ h => hFc q h) hFc (fun u t H1 locs ht hvm hw hB hz1 hk1 hS => ?_)
                        obtain ⟨v106, v107, v108⟩ := u
                        obtain ⟨hP1, hK1, hD1⟩ := hB
                        rw [ht] at hP1
                        obtain ⟨hP, hD⟩ := va_joinQ (wr := [(ho, .inr (1, [.ref v99, .ref q_t, .int v101])), (v99, .inl (cc.2.1, v100, .inl v102)), (q_t, .inl (cc.2.1, 182, .inl v103))]) (w1 := [(q61_98, .inr (11, [va_rf v106, .int v107, .int v108]))]) hP hD [3] [0, 1, 2] rfl rfl (by decide) (by decide) hk1 hFc hP1 hD1
                        generalize H1 = H at hP hS ⊢
                        have hP : va_P (dC, dI) vwCl (([(ho, .inr (1, [.ref v99, .ref q_t, .int v101])), (v99, .inl (cc.2.1, v100, .inl v102)), (q_t, .inl (cc.2.1, 182, .inl v103)), (q61_98, .inr (11, [va_rf v106, .int v107, .int v108]))] : va_W) ++ px_cp cc ho cm np ns hm pa sa v104 pp ss) H := hP
                        have hD : va_D A (([(ho, .inr (1, [.ref v99, .ref q_t, .int v101])), (v99, .inl (cc.2.1, v100, .inl v102)), (q_t, .inl (cc.2.1, 182, .inl v103)), (q61_98, .inr (11, [va_rf v106, .int v107, .int v108]))] : va_W) ++ px_cp cc ho cm np ns hm pa sa v104 pp ss) := hD
                        obtain ⟨hsr103, hpk103, hw⟩ := hw
                        obtain ⟨pa110, epa110⟩ : ∃ z : Nat → Nat, z = va_up pa np q61_98 := ⟨_, rfl⟩
                        obtain ⟨pp110, epp110⟩ : ∃ z : Nat → px_PR, z = va_up pp np ((pp k59_96).1, v107, v108) := ⟨_, rfl⟩
                        have hsr103 : v106 = some (sa ((pp k59_96).1)) := hsr103
                        have hpk103 : px_pok cm np v104 := hpk103
                        rw [hsr103] at hP hD
                        have hP : va_P (dC, dI) vwCl (([(ho, .inr (1, [.ref v99, .ref q_t, .int v101])), (v99, .inl (cc.2.1, v100, .inl v102)), (q_t, .inl (cc.2.1, 182, .inl v103))] : va_W) ++ px_cp cc ho cm (np + 1) ns hm pa110 sa v104 pp110 ss) H := px_pnP (X := [(ho, .inr (1, [.ref v99, .ref q_t, .int v101])), (v99, .inl (cc.2.1, v100, .inl v102)), (q_t, .inl (cc.2.1, 182, .inl v103))]) hpk103 rfl epa110 epp110 hP
                        have hD : va_D A (([(ho, .inr (1, [.ref v99, .ref q_t, .int v101])), (v99, .inl (cc.2.1, v100, .inl v102)), (q_t, .inl (cc.2.1, 182, .inl v103))] : va_W) ++ px_cp cc ho cm (np + 1) ns hm pa110 sa v104 pp110 ss) := px_pnD (X := [(ho, .inr (1, [.ref v99, .ref q_t, .int v101])), (v99, .inl (cc.2.1, v100, .inl v102)), (q_t, .inl (cc.2.1, 182, .inl v103))]) hpk103 rfl epa110 epp110 hD
                        have hw := hw pa110 pp110 epa110 epp110
                        obtain ⟨ho103_0, hw⟩ := hw
                        rw [show pa k59_96 = pa110 k59_96 by rw [epa110, va_up_ne _ _ (Nat.ne_of_lt ho103_0)]] at hl
                        have eq103 : q61_98 = pa110 np := by rw [epa110, va_up_self]
                        rw [eq103]
                        refine lv_astore (lv' := [(7, .ref (pa110 np)), (6, .ref (pa110 k59_96)), (0, .ref (hm a0x)), (1, .ref (hm a1x)), (2, .int x2), (3, .int x3), (4, .int x4), (5, .int x5), (8, .int x8), (9, .int x9)]) hx hb px_d259_103 hl (by decide) rfl (fun ls hl => ?_)
                        exact S105 x2 x3 x4 x5 (some k59_96) (some np) x8 x9 v99 v100 v101 v102 v103 v104 (np + 1) pa110 pp110 (kc + 1) (ks + 3) H locs ls hc61_98 hs61_98 hP hD hS (lv_sub hl [2, 3, 4, 5, 6, 7, 1, 0, 8, 9] rfl) hw
                      · have hw := hw.2 c92
                        refine lv_iconst (v := 1) hx hb px_d259_95 (by decide) ?_
                        refine lv_goto (tgt := 100) hx hb px_d259_96 (by decide) ?_
                        have hPc := hP.sub (ws' := [(q61_98, .inr (11, [.null, .int 0, .int 0]))]) [3] rfl
                        have hDc := hD.sub (ws' := [(q61_98, .inr (11, [.null, .int 0, .int 0]))]) [3] (by decide) rfl
                        have hFc := va_free (wc := [(q61_98, .inr (11, [.null, .int 0, .int 0]))]) hD hS hA [3] rfl
                        have hKc := hK.sub (tys' := []) [] rfl
                        refine va_callv (va_runI (As := [.ref (sa (pp k59_96).1), .int (((pp k59_96).2.1) ||| r81), .int 1]) (rest := [.ref q61_98]) ⟨hx, hb, hml, hown, htw⟩ (w248_met l dC dI H.size q61_98 (sa (pp k59_96).1) (((pp k59_96).2.1) ||| r81) 1 none 0 0 _ hw) (cwI 3 htw px_g248 rfl rfl rfl (htw _ px_w171) (htw _ px_w1263) (htw _ px_w1281) rfl (by decide +kernel) ⟨Nat.le_of_ble_eq_true rfl, Nat.le_of_ble_eq_true rfl⟩) ⟨fun a U g mk q => by obtain ⟨q0, q1, qP, qK, qD, qN⟩ := q; exact ⟨q0, q1, qP, va_K.moved (u := U) (U := U.calling g mk a) (Vm.Alike.refl U.vm) qK, qD, qN.same rfl⟩, fun U hU hW => ⟨rfl, by rw [hU], by rw [hU]; exact hPc, va_K.moved hW.alike hKc, hDc.weaken (fun _ _ _ _ => trivial), hN.warm hW⟩⟩ rfl rfl hl.1 rfl (lv_room (Nat.le_of_ble_eq_true rfl)) px_d259_100 ⟨hc61_98, hs61_98⟩) hS (fun q _ h => hFc q h) hFc (fun u t H1 locs ht hvm hw hB hz1 hk1 hS => ?_)
                        obtain ⟨v111, v112, v113⟩ := u
                        obtain ⟨hP1, hK1, hD1⟩ := hB
                        rw [ht] at hP1
                        obtain ⟨hP, hD⟩ := va_joinQ (wr := [(ho, .inr (1, [.ref v99, .ref q_t, .int v101])), (v99, .inl (cc.2.1, v100, .inl v102)), (q_t, .inl (cc.2.1, 182, .inl v103))]) (w1 := [(q61_98, .inr (11, [va_rf v111, .int v112, .int v113]))]) hP hD [3] [0, 1, 2] rfl rfl (by decide) (by decide) hk1 hFc hP1 hD1
                        generalize H1 = H at hP hS ⊢
                        have hP : va_P (dC, dI) vwCl (([(ho, .inr (1, [.ref v99, .ref q_t, .int v101])), (v99, .inl (cc.2.1, v100, .inl v102)), (q_t, .inl (cc.2.1, 182, .inl v103)), (q61_98, .inr (11, [va_rf v111, .int v112, .int v113]))] : va_W) ++ px_cp cc ho cm np ns hm pa sa v104 pp ss) H := hP
                        have hD : va_D A (([(ho, .inr (1, [.ref v99, .ref q_t, .int v101])), (v99, .inl (cc.2.1, v100, .inl v102)), (q_t, .inl (cc.2.1, 182, .inl v103)), (q61_98, .inr (11, [va_rf v111, .int v112, .int v113]))] : va_W) ++ px_cp cc ho cm np ns hm pa sa v104 pp ss) := hD
                        obtain ⟨hsr103, hpk103, hw⟩ := hw
                        obtain ⟨pa115, epa115⟩ : ∃ z : Nat → Nat, z = va_up pa np q61_98 := ⟨_, rfl⟩
                        obtain ⟨pp115, epp115⟩ : ∃ z : Nat → px_PR, z = va_up pp np ((pp k59_96).1, v112, v113) := ⟨_, rfl⟩
                        have hsr103 : v111 = some (sa ((pp k59_96).1)) := hsr103
                        have hpk103 : px_pok cm np v104 := hpk103
                        rw [hsr103] at hP hD
                        have hP : va_P (dC, dI) vwCl (([(ho, .inr (1, [.ref v99, .ref q_t, .int v101])), (v99, .inl (cc.2.1, v100, .inl v102)), (q_t, .inl (cc.2.1, 182, .inl v103))] : va_W) ++ px_cp cc ho cm (np + 1) ns hm pa115 sa v104 pp115 ss) H := px_pnP (X := [(ho, .inr (1, [.ref v99, .ref q_t, .int v101])), (v99, .inl (cc.2.1, v100, .inl v102)), (q_t, .inl (cc.2.1, 182, .inl v103))]) hpk103 rfl epa115 epp115 hP
                        have hD : va_D A (([(ho, .inr (1, [.ref v99, .ref q_t, .int v101])), (v99, .inl (cc.2.1, v100, .inl v102)), (q_t, .inl (cc.2.1, 182, .inl v103))] : va_W) ++ px_cp cc ho cm (np + 1) ns hm pa115 sa v104 pp115 ss) := px_pnD (X := [(ho, .inr (1, [.ref v99, .ref q_t, .int v101])), (v99, .inl (cc.2.1, v100, .inl v102)), (q_t, .inl (cc.2.1, 182, .inl v103))]) hpk103 rfl epa115 epp115 hD
                        have hw := hw pa115 pp115 epa115 epp115
                        obtain ⟨ho103_0, hw⟩ := hw
                        rw [show pa k59_96 = pa115 k59_96 by rw [epa115, va_up_ne _ _ (Nat.ne_of_lt ho103_0)]] at hl
                        have eq103 : q61_98 = pa115 np := by rw [epa115, va_up_self]
                        rw [eq103]
                        refine lv_astore (lv' := [(7, .ref (pa115 np)), (6, .ref (pa115 k59_96)), (0, .ref (hm a0x)), (1, .ref (hm a1x)), (2, .int x2), (3, .int x3), (4, .int x4), (5, .int x5), (8, .int x8), (9, .int x9)]) hx hb px_d259_103 hl (by decide) rfl (fun ls hl => ?_)
                        exact S105 x2 x3 x4 x5 (some k59_96) (some np) x8 x9 v99 v100 v101 v102 v103 v104 (np + 1) pa115 pp115 (kc + 1) (ks + 3) H locs ls hc61_98 hs61_98 hP hD hS (lv_sub hl [2, 3, 4, 5, 6, 7, 1, 0, 8, 9] rfl) hw
        | some a12_73 =>
          have hw := hw.2 a12_73 rfl
          have hP : va_P (dC, dI) vwCl (([(ho, .inr (1, [.ref q_o, .ref q_t, .int o_reached])), (q_o, .inl (cc.2.1, l_o, .inl g_o)), (q_t, .inl (cc.2.1, 182, .inl g_t))] : va_W) ++ px_cp cc ho cm np ns hm pa sa mm pp ss) H := hP
          have hD : va_D A (([(ho, .inr (1, [.ref q_o, .ref q_t, .int o_reached])), (q_o, .inl (cc.2.1, l_o, .inl g_o)), (q_t, .inl (cc.2.1, 182, .inl g_t))] : va_W) ++ px_cp cc ho cm np ns hm pa sa mm pp ss) := hD
          have hl : lv_has ls 10 [(0, .ref (hm a0x)), (1, .ref (hm a1x)), (2, .int x2), (3, .int x3), (4, .int x4), (5, .int x5), (6, .ref (pa a12_27)), (7, .ref (pa a12_73)), (8, .int x8), (9, .int x9)] := hl
          refine W.eq (g2 := F0 m 12 ls []) rfl ?_
          refine lv_iload hx hb px_d259_12 (lv_at hl 9 rfl) ?_
          refine lv_aload_n hx hb px_d259_14 rfl (lv_at hl 1 rfl) ?_
          obtain ⟨hp15, hw⟩ := hw
          refine va_get (D := (dC, dI)) (ci := 10) (v := .int ((mm a1x).2.1 13)) (C := "MatroidDesk$Matroid") (T := px_T10) (N := 15) hx hb htw px_in10 hown hK hP (3 + (13 * a1x + 0)) (px_cg0 rfl hp15) rfl 13 (by decide) (htw _ px_w1264) (fun _ h9 => h9) rfl px_d259_15 ?_
          refine lv_icmp_ge (tgt := 137) hx hb px_d259_18 (by decide) (fun c18 => ?_) (fun c18 => ?_)
          · have hw := hw.1 c18
            refine W.widen (k := mc) (n := ms) hkc hks ?_
            rw [← hQ]
            exact W.vret hx hb hr (fun t ht hW => ⟨⟨(q_o, l_o, o_reached, g_o, g_t, mm, np, pa, pp), rfl, hw, by rw [ht]; exact hP, va_K.moved hW.alike hK, hD⟩, hS.F ht⟩) hS.2.2 px_d259_137
          · have hw := hw.2 c18
            refine lv_iload_n hx hb px_d259_21 rfl (lv_at hl 3 rfl) ?_
            refine lv_iload hx hb px_d259_22 (lv_at hl 9 rfl) ?_
            refine lv_ishr hx hb px_d259_24 ?_
            refine lv_iconst (v := 1) hx hb px_d259_25 (by decide) ?_
            refine lv_iand hx hb px_d259_26 ?_
            refine lv_if_ne (tgt := 131) hx hb px_d259_27 (by decide) (fun c27 => ?_) (fun c27 => ?_)
            · have hw := hw.1 c27
              exact S131 x2 x3 x4 x5 (some a12_27) (some a12_73) x8 x9 q_o l_o o_reached g_o g_t mm np pa pp kc ks H locs ls hkc hks hP hD hS (lv_sub hl [0, 1, 2, 3, 4, 5, 6, 7, 8, 9] rfl) hw
            · have hw := hw.2 c27
              refine lv_aload_n hx hb px_d259_30 rfl (lv_at hl 1 rfl) ?_
              obtain ⟨hp31, hw⟩ := hw
              refine va_get (D := (dC, dI)) (ci := 10) (v := .ref ((mm a1x).1 1)) (C := "MatroidDesk$Matroid") (T := px_T10) (N := 15) hx hb htw px_in10 hown hK hP (3 + (13 * a1x + 0)) (px_cg0 rfl hp31) rfl 1 (by decide) (htw _ px_w1000) (fun _ h9 => h9) rfl px_d259_31 ?_
              refine lv_iload hx hb px_d259_34 (lv_at hl 9 rfl) ?_
              obtain ⟨hp36, hw⟩ := hw
              obtain ⟨hi36, hw⟩ := hw
              refine va_aldq hx hb hK hP (3 + (13 * a1x + 1)) 3 (px_cg1 rfl hp36) rfl hi36 px_d259_36 ?_
              refine W.eq (g2 := F0 m 37 ls (va_rf (Option.map pa ((mm a1x).2.2.2.2.2 (Int32.toNatClampNeg x9))) :: [])) rfl ?_
              cases hz37_116 : (mm a1x).2.2.2.2.2 (Int32.toNatClampNeg x9) with
              | none =>
                have hw := hw.1 hz37_116
                refine W.eq (g2 := F0 m 37 ls (.null :: [])) rfl ?_
                refine lv_ifnullN (tgt := 105) hx hb px_d259_37 (by decide) ?_
                exact S105 x2 x3 x4 x5 (some a12_27) (some a12_73) x8 x9 q_o l_o o_reached g_o g_t mm np pa pp kc ks H locs ls hkc hks hP hD hS (lv_sub hl [0, 1, 2, 3, 4, 5, 6, 7, 8, 9] rfl) hw
              | some k37_116 =>
                have hw := hw.2 k37_116 hz37_116
                refine W.eq (g2 := F0 m 37 ls (.ref (pa k37_116) :: [])) rfl ?_
                refine lv_ifnull hx hb px_d259_37 ?_
                refine lv_aload_n hx hb px_d259_40 rfl (lv_at hl 1 rfl) ?_
                obtain ⟨hp41, hw⟩ := hw
                refine va_get (D := (dC, dI)) (ci := 10) (v := .ref ((mm a1x).1 1)) (C := "MatroidDesk$Matroid") (T := px_T10) (N := 15) hx hb htw px_in10 hown hK hP (3 + (13 * a1x + 0)) (px_cg0 rfl hp41) rfl 1 (by decide) (htw _ px_w1000) (fun _ h9 => h9) rfl px_d259_41 ?_
                refine lv_iload hx hb px_d259_44 (lv_at hl 9 rfl) ?_
                obtain ⟨hp46, hw⟩ := hw
                obtain ⟨hi46, hw⟩ := hw
                refine va_aldq hx hb hK hP (3 + (13 * a1x + 1)) 3 (px_cg1 rfl hp46) rfl hi46 px_d259_46 ?_
                refine W.eq (g2 := F0 m 47 ls (va_rf (Option.map pa ((mm a1x).2.2.2.2.2 (Int32.toNatClampNeg x9))) :: [])) rfl ?_
                cases hz47_117 : (mm a1x).2.2.2.2.2 (Int32.toNatClampNeg x9) with
                | none =>
                  have hw := hw.1 hz47_117
                  refine W.eq (g2 := F0 m 47 ls (.null :: [])) rfl ?_
                  refine lv_aload hx hb px_d259_47 (lv_at hl 6 rfl) ?_
                  refine lv_acmp_eq (rx := none) (ry := some (pa a12_27)) (tgt := 105) hx hb px_d259_49 (by decide) (fun h9 => absurd h9 (by simp)) (fun _ => ?_)
                  refine lv_aload_n hx hb px_d259_52 rfl (lv_at hl 1 rfl) ?_
                  obtain ⟨hp53, hw⟩ := hw
                  refine va_get (D := (dC, dI)) (ci := 10) (v := .ref ((mm a1x).1 1)) (C := "MatroidDesk$Matroid") (T := px_T10) (N := 15) hx hb htw px_in10 hown hK hP (3 + (13 * a1x + 0)) (px_cg0 rfl hp53) rfl 1 (by decide) (htw _ px_w1000) (fun _ h9 => h9) rfl px_d259_53 ?_
                  refine lv_iload hx hb px_d259_56 (lv_at hl 9 rfl) ?_
                  obtain ⟨hp58, hw⟩ := hw
                  obtain ⟨hi58, hw⟩ := hw
                  refine va_aldq hx hb hK hP (3 + (13 * a1x + 1)) 3 (px_cg1 rfl hp58) rfl hi58 px_d259_58 ?_
                  refine W.eq (g2 := F0 m 59 ls (va_rf (Option.map pa ((mm a1x).2.2.2.2.2 (Int32.toNatClampNeg x9))) :: [])) rfl ?_
                  cases hz59_118 : (mm a1x).2.2.2.2.2 (Int32.toNatClampNeg x9) with
                  | none =>
                    have hw := hw.1 hz59_118
                    refine W.eq (g2 := F0 m 59 ls (.null :: [])) rfl ?_
                    refine lv_astoreN (lv' := [(6, .null), (0, .ref (hm a0x)), (1, .ref (hm a1x)), (2, .int x2), (3, .int x3), (4, .int x4), (5, .int x5), (7, .ref (pa a12_73)), (8, .int x8), (9, .int x9)]) hx hb px_d259_59 hl (by decide) rfl (fun ls hl => ?_)
                    obtain ⟨hc61_119, hs61_119, hw⟩ := hw
                    refine va_new (ci := 11) (fs := [.null, .int 0, .int 0]) (C := "MatroidDesk$Part") (T := px_T11) (N := 3) hx hb htw px_in11 px_ty11 px_tyok11 hown (htw _ px_w999) (htw _ px_w172) (htw _ px_w171) hK hP hD hS hA rfl px_df11 hc61_119 hs61_119 px_d259_61 (fun q61_119 H hP hD hS => ?_)
                    have hw := hw q61_119
                    have hP := hP.swap
                    have hD := hD.swap
                    have hP : va_P (dC, dI) vwCl (([(ho, .inr (1, [.ref q_o, .ref q_t, .int o_reached])), (q_o, .inl (cc.2.1, l_o, .inl g_o)), (q_t, .inl (cc.2.1, 182, .inl g_t)), (q61_119, .inr (11, [.null, .int 0, .int 0]))] : va_W) ++ px_cp cc ho cm np ns hm pa sa mm pp ss) H := hP
                    have hD : va_D A (([(ho, .inr (1, [.ref q_o, .ref q_t, .int o_reached])), (q_o, .inl (cc.2.1, l_o, .inl g_o)), (q_t, .inl (cc.2.1, 182, .inl g_t)), (q61_119, .inr (11, [.null, .int 0, .int 0]))] : va_W) ++ px_cp cc ho cm np ns hm pa sa mm pp ss) := hD
                    refine lv_dup hx hb px_d259_64 rfl ?_
                    refine lv_aloadN hx hb px_d259_65 (lv_at hl 0 rfl) ?_
                    exact False.elim hw
                  | some k59_118 =>
                    have hw := hw.2 k59_118 hz59_118
                    refine W.eq (g2 := F0 m 59 ls (.ref (pa k59_118) :: [])) rfl ?_
                    refine lv_astore (lv' := [(6, .ref (pa k59_118)), (0, .ref (hm a0x)), (1, .ref (hm a1x)), (2, .int x2), (3, .int x3), (4, .int x4), (5, .int x5), (7, .ref (pa a12_73)), (8, .int x8), (9, .int x9)]) hx hb px_d259_59 hl (by decide) rfl (fun ls hl => ?_)
                    obtain ⟨hc61_120, hs61_120, hw⟩ := hw
                    refine va_new (ci := 11) (fs := [.null, .int 0, .int 0]) (C := "MatroidDesk$Part") (T := px_T11) (N := 3) hx hb htw px_in11 px_ty11 px_tyok11 hown (htw _ px_w999) (htw _ px_w172) (htw _ px_w171) hK hP hD hS hA rfl px_df11 hc61_120 hs61_120 px_d259_61 (fun q61_120 H hP hD hS => ?_)
                    have hw := hw q61_120
                    have hP := hP.swap
                    have hD := hD.swap
                    have hP : va_P (dC, dI) vwCl (([(ho, .inr (1, [.ref q_o, .ref q_t, .int o_reached])), (q_o, .inl (cc.2.1, l_o, .inl g_o)), (q_t, .inl (cc.2.1, 182, .inl g_t)), (q61_120, .inr (11, [.null, .int 0, .int 0]))] : va_W) ++ px_cp cc ho cm np ns hm pa sa mm pp ss) H := hP
                    have hD : va_D A (([(ho, .inr (1, [.ref q_o, .ref q_t, .int o_reached])), (q_o, .inl (cc.2.1, l_o, .inl g_o)), (q_t, .inl (cc.2.1, 182, .inl g_t)), (q61_120, .inr (11, [.null, .int 0, .int 0]))] : va_W) ++ px_cp cc ho cm np ns hm pa sa mm pp ss) := hD
                    refine lv_dup hx hb px_d259_64 rfl ?_
                    refine lv_aload hx hb px_d259_65 (lv_at hl 0 rfl) ?_
                    obtain ⟨hpp67, hw⟩ := hw
                    refine va_getN (D := (dC, dI)) (ci := 11) (v := .ref (sa (pp k59_118).1)) (C := "MatroidDesk$Part") (T := px_T11) (N := 3) hx hb htw px_in11 hown hK hP (4 + (13 * cm + k59_118)) (px_gp rfl hpp67) rfl 0 (by decide) (va_Nw.use (w := .fieldLinkNest "MatroidDesk$Matroid" 162 "MatroidDesk$Part" "source" "LMatroidDesk$Source;" "MatroidDesk") rfl (hN.1 ("MatroidDesk$Matroid", 162, "MatroidDesk$Part", "source", "LMatroidDesk$Source;", "MatroidDesk") px_nf22)) (fun _ h9 => h9) rfl px_d259_67 ?_
                    refine lv_aload hx hb px_d259_70 (lv_at hl 0 rfl) ?_
                    obtain ⟨hpp72, hw⟩ := hw
                    refine va_getN (D := (dC, dI)) (ci := 11) (v := .int ((pp k59_118).2.1)) (C := "MatroidDesk$Part") (T := px_T11) (N := 3) hx hb htw px_in11 hown hK hP (4 + (13 * cm + k59_118)) (px_gp rfl hpp72) rfl 1 (by decide) (va_Nw.use (w := .fieldLinkNest "MatroidDesk$Matroid" 147 "MatroidDesk$Part" "held" "I" "MatroidDesk") rfl (hN.1 ("MatroidDesk$Matroid", 147, "MatroidDesk$Part", "held", "I", "MatroidDesk") px_nf23)) (fun _ h9 => h9) rfl px_d259_72 ?_
                    refine lv_aload_n hx hb px_d259_75 rfl (lv_at hl 2 rfl) ?_
                    refine lv_aload hx hb px_d259_76 (lv_at hl 0 rfl) ?_
                    refine lv_iload_n hx hb px_d259_78 rfl (lv_at hl 4 rfl) ?_
                    refine lv_iload hx hb px_d259_79 (lv_at hl 5 rfl) ?_
                    obtain ⟨hp81, hw⟩ := hw
                    have hPc := hP.part (cx := [(ho, .inr (1, [.ref q_o, .ref q_t, .int o_reached])), (q_o, .inl (cc.2.1, l_o, .inl g_o)), (q_t, .inl (cc.2.1, 182, .inl g_t))]) [0, 1, 2] rfl
                    have hDc := hD.part (cx := [(ho, .inr (1, [.ref q_o, .ref q_t, .int o_reached])), (q_o, .inl (cc.2.1, l_o, .inl g_o)), (q_t, .inl (cc.2.1, 182, .inl g_t))]) [0, 1, 2] (by decide) rfl
                    have hFc := va_freeP (cx := [(ho, .inr (1, [.ref q_o, .ref q_t, .int o_reached])), (q_o, .inl (cc.2.1, l_o, .inl g_o)), (q_t, .inl (cc.2.1, 182, .inl g_t))]) hD hS hA [0, 1, 2] rfl
                    have hKc := hK.sub (tys' := [(cc.2.1, .int), (cc.2.2.2.1, .byte), (cc.2.2.2.2, .long), (cc.1, .object "MatroidDesk$Part"), (cc.2.2.1, (.array .int))]) [0, 1, 2, 3, 4] rfl
                    refine va_calli (va_runV (As := [.ref (pa k59_118), .int x3, .int x4]) (rest := [.int ((pp k59_118).2.1), .ref (sa (pp k59_118).1), .ref q61_120, .ref q61_120]) ⟨hx, hb, hml, hown, htw⟩ (w260_met l dC dI H.size ho q_t a1x cc cm np ns hm pa sa pp ss k59_118 x3 x4 q_o l_o o_reached g_o g_t mm _ hw) (cwV 3 htw (px_gv px_w1328 px_w1330 px_w1331 px_w154 px_g260) rfl rfl rfl (by decide +kernel) ⟨Nat.le_of_ble_eq_true rfl, Nat.le_of_ble_eq_true rfl⟩) ⟨fun a U g mk q => by obtain ⟨q0, q1, qP, qK, qD, qN⟩ := q; exact ⟨q0, q1, qP, va_K.moved (u := U) (U := U.calling g mk a) (Vm.Alike.refl U.vm) qK, qD, qN.same rfl⟩, va_recv hK hP (ci := 10) (q0 := (4 + (13 * a1x + 0))) rfl (px_cg0 rfl hp81), fun U hU hW => ⟨rfl, by rw [hU], by rw [hU]; exact hPc, va_K.moved hW.alike hKc, hDc.weaken (fun _ _ _ _ => trivial), hN.warm hW⟩⟩ rfl rfl hl.1 rfl (lv_room (Nat.le_of_ble_eq_true rfl)) px_d259_81 ⟨hc61_120, hs61_120⟩) hS (fun q _ h => hFc q h) hFc (fun r81 u t H1 locs ht hvm hw hB hz1 hk1 hS => ?_)
                    obtain ⟨v121, v122, v123, v124, v125, v126⟩ := u
                    obtain ⟨hP1, hK1, hD1⟩ := hB
                    rw [ht] at hP1
                    obtain ⟨hP, hD⟩ := va_joinP (wr := [(q61_120, .inr (11, [.null, .int 0, .int 0]))]) (rx := [(ho, .inr (1, [.ref v121, .ref q_t, .int v123])), (v121, .inl (cc.2.1, v122, .inl v124)), (q_t, .inl (cc.2.1, 182, .inl v125))]) hP hD [0, 1, 2] [3] rfl rfl (by decide) (by decide) hk1 hFc hP1 hD1
                    generalize H1 = H at hP hS ⊢
                    have hP : va_P (dC, dI) vwCl (([(q61_120, .inr (11, [.null, .int 0, .int 0])), (ho, .inr (1, [.ref v121, .ref q_t, .int v123])), (v121, .inl (cc.2.1, v122, .inl v124)), (q_t, .inl (cc.2.1, 182, .inl v125))] : va_W) ++ px_cp cc ho cm np ns hm pa sa v126 pp ss) H := hP
                    have hD : va_D A (([(q61_120, .inr (11, [.null, .int 0, .int 0])), (ho, .inr (1, [.ref v121, .ref q_t, .int v123])), (v121, .inl (cc.2.1, v122, .inl v124)), (q_t, .inl (cc.2.1, 182, .inl v125))] : va_W) ++ px_cp cc ho cm np ns hm pa sa v126 pp ss) := hD
                    have hP := hP.part (cx := [(ho, .inr (1, [.ref v121, .ref q_t, .int v123])), (v121, .inl (cc.2.1, v122, .inl v124)), (q_t, .inl (cc.2.1, 182, .inl v125)), (q61_120, .inr (11, [.null, .int 0, .int 0]))]) [1, 2, 3, 0] rfl
                    have hD := hD.part (cx := [(ho, .inr (1, [.ref v121, .ref q_t, .int v123])), (v121, .inl (cc.2.1, v122, .inl v124)), (q_t, .inl (cc.2.1, 182, .inl v125)), (q61_120, .inr (11, [.null, .int 0, .int 0]))]) [1, 2, 3, 0] (by decide) rfl
                    refine lv_ior hx hb px_d259_84 ?_
                    refine lv_aload hx hb px_d259_85 (lv_at hl 0 rfl) ?_
                    obtain ⟨hpp87, hw⟩ := hw
                    refine va_getN (D := (dC, dI)) (ci := 11) (v := .int ((pp k59_118).2.2)) (C := "MatroidDesk$Part") (T := px_T11) (N := 3) hx hb htw px_in11 hown hK hP (4 + (13 * cm + k59_118)) (px_gp rfl hpp87) rfl 2 (by decide) (va_Nw.use (w := .fieldLinkNest "MatroidDesk$Matroid" 150 "MatroidDesk$Part" "turned" "Z" "MatroidDesk") rfl (hN.1 ("MatroidDesk$Matroid", 150, "MatroidDesk$Part", "turned", "Z", "MatroidDesk") px_nf24)) (fun _ h9 => h9) rfl px_d259_87 ?_
                    refine lv_iload hx hb px_d259_90 (lv_at hl 6 rfl) ?_
                    refine lv_icmp_eq (tgt := 99) hx hb px_d259_92 (by decide) (fun c92 => ?_) (fun c92 => ?_)
                    · have hw := hw.1 c92
                      refine lv_iconst (v := 0) hx hb px_d259_99 (by decide) ?_
                      have hPc := hP.sub (ws' := [(q61_120, .inr (11, [.null, .int 0, .int 0]))]) [3] rfl
                      have hDc := hD.sub (ws' := [(q61_120, .inr (11, [.null, .int 0, .int 0]))]) [3] (by decide) rfl
                      have hFc := va_free (wc := [(q61_120, .inr (11, [.null, .int 0, .int 0]))]) hD hS hA [3] rfl
                      have hKc := hK.sub (tys' := []) [] rfl
                      refine va_callv (va_runI (As := [.ref (sa (pp k59_118).1), .int (((pp k59_118).2.1) ||| r81), .int 0]) (rest := [.ref q61_120]) ⟨hx, hb, hml, hown, htw⟩ (w248_met l dC dI H.size q61_120 (sa (pp k59_118).1) (((pp k59_118).2.1) ||| r81) 0 none 0 0 _ hw) (cwI 3 htw px_g248 rfl rfl rfl (htw _ px_w171) (htw _ px_w1263) (htw _ px_w1281) rfl (by decide +kernel) ⟨Nat.le_of_ble_eq_true rfl, Nat.le_of_ble_eq_true rfl⟩) ⟨fun a U g mk q => by obtain ⟨q0, q1, qP, qK, qD, qN⟩ := q; exact ⟨q0, q1, qP, va_K.moved (u := U) (U := U.calling g mk a) (Vm.Alike.refl U.vm) qK, qD, qN.same rfl⟩, fun U hU hW => ⟨rfl, by rw [hU], by rw [hU]; exact hPc, va_K.moved hW.alike hKc, hDc.weaken (fun _ _ _ _ => trivial), hN.warm hW⟩⟩ rfl rfl hl.1 rfl (lv_room (Nat.le_of_ble_eq_true rfl)) px_d259_100 ⟨hc61_120, hs61_120⟩) hS (fun q _ h => hFc q h) hFc (fun u t H1 locs ht hvm hw hB hz1 hk1 hS => ?_)
                      obtain ⟨v128, v129, v130⟩ := u
                      obtain ⟨hP1, hK1, hD1⟩ := hB
                      rw [ht] at hP1
                      obtain ⟨hP, hD⟩ := va_joinQ (wr := [(ho, .inr (1, [.ref v121, .ref q_t, .int v123])), (v121, .inl (cc.2.1, v122, .inl v124)), (q_t, .inl (cc.2.1, 182, .inl v125))]) (w1 := [(q61_120, .inr (11, [va_rf v128, .int v129, .int v130]))]) hP hD [3] [0, 1, 2] rfl rfl (by decide) (by decide) hk1 hFc hP1 hD1
                      generalize H1 = H at hP hS ⊢
                      have hP : va_P (dC, dI) vwCl (([(ho, .inr (1, [.ref v121, .ref q_t, .int v123])), (v121, .inl (cc.2.1, v122, .inl v124)), (q_t, .inl (cc.2.1, 182, .inl v125)), (q61_120, .inr (11, [va_rf v128, .int v129, .int v130]))] : va_W) ++ px_cp cc ho cm np ns hm pa sa v126 pp ss) H := hP
                      have hD : va_D A (([(ho, .inr (1, [.ref v121, .ref q_t, .int v123])), (v121, .inl (cc.2.1, v122, .inl v124)), (q_t, .inl (cc.2.1, 182, .inl v125)), (q61_120, .inr (11, [va_rf v128, .int v129, .int v130]))] : va_W) ++ px_cp cc ho cm np ns hm pa sa v126 pp ss) := hD
                      obtain ⟨hsr103, hpk103, hw⟩ := hw
                      obtain ⟨pa132, epa132⟩ : ∃ z : Nat → Nat, z = va_up pa np q61_120 := ⟨_, rfl⟩
                      obtain ⟨pp132, epp132⟩ : ∃ z : Nat → px_PR, z = va_up pp np ((pp k59_118).1, v129, v130) := ⟨_, rfl⟩
                      have hsr103 : v128 = some (sa ((pp k59_118).1)) := hsr103
                      have hpk103 : px_pok cm np v126 := hpk103
                      rw [hsr103] at hP hD
                      have hP : va_P (dC, dI) vwCl (([(ho, .inr (1, [.ref v121, .ref q_t, .int v123])), (v121, .inl (cc.2.1, v122, .inl v124)), (q_t, .inl (cc.2.1, 182, .inl v125))] : va_W) ++ px_cp cc ho cm (np + 1) ns hm pa132 sa v126 pp132 ss) H := px_pnP (X := [(ho, .inr (1, [.ref v121, .ref q_t, .int v123])), (v121, .inl (cc.2.1, v122, .inl v124)), (q_t, .inl (cc.2.1, 182, .inl v125))]) hpk103 rfl epa132 epp132 hP
                      have hD : va_D A (([(ho, .inr (1, [.ref v121, .ref q_t, .int v123])), (v121, .inl (cc.2.1, v122, .inl v124)), (q_t, .inl (cc.2.1, 182, .inl v125))] : va_W) ++ px_cp cc ho cm (np + 1) ns hm pa132 sa v126 pp132 ss) := px_pnD (X := [(ho, .inr (1, [.ref v121, .ref q_t, .int v123])), (v121, .inl (cc.2.1, v122, .inl v124)), (q_t, .inl (cc.2.1, 182, .inl v125))]) hpk103 rfl epa132 epp132 hD
                      have hw := hw pa132 pp132 epa132 epp132
                      obtain ⟨ho103_0, hw⟩ := hw
                      rw [show pa a12_73 = pa132 a12_73 by rw [epa132, va_up_ne _ _ (Nat.ne_of_lt ho103_0)]] at hl
                      obtain ⟨ho103_1, hw⟩ := hw
                      rw [show pa k59_118 = pa132 k59_118 by rw [epa132, va_up_ne _ _ (Nat.ne_of_lt ho103_1)]] at hl
                      have eq103 : q61_120 = pa132 np := by rw [epa132, va_up_self]
                      rw [eq103]
                      refine lv_astore (lv' := [(7, .ref (pa132 np)), (6, .ref (pa132 k59_118)), (0, .ref (hm a0x)), (1, .ref (hm a1x)), (2, .int x2), (3, .int x3), (4, .int x4), (5, .int x5), (8, .int x8), (9, .int x9)]) hx hb px_d259_103 hl (by decide) rfl (fun ls hl => ?_)
                      exact S105 x2 x3 x4 x5 (some k59_118) (some np) x8 x9 v121 v122 v123 v124 v125 v126 (np + 1) pa132 pp132 (kc + 1) (ks + 3) H locs ls hc61_120 hs61_120 hP hD hS (lv_sub hl [2, 3, 4, 5, 6, 7, 1, 0, 8, 9] rfl) hw
                    · have hw := hw.2 c92
                      refine lv_iconst (v := 1) hx hb px_d259_95 (by decide) ?_
                      refine lv_goto (tgt := 100) hx hb px_d259_96 (by decide) ?_
                      have hPc := hP.sub (ws' := [(q61_120, .inr (11, [.null, .int 0, .int 0]))]) [3] rfl
                      have hDc := hD.sub (ws' := [(q61_120, .inr (11, [.null, .int 0, .int 0]))]) [3] (by decide) rfl
                      have hFc := va_free (wc := [(q61_120, .inr (11, [.null, .int 0, .int 0]))]) hD hS hA [3] rfl
                      have hKc := hK.sub (tys' := []) [] rfl
                      refine va_callv (va_runI (As := [.ref (sa (pp k59_118).1), .int (((pp k59_118).2.1) ||| r81), .int 1]) (rest := [.ref q61_120]) ⟨hx, hb, hml, hown, htw⟩ (w248_met l dC dI H.size q61_120 (sa (pp k59_118).1) (((pp k59_118).2.1) ||| r81) 1 none 0 0 _ hw) (cwI 3 htw px_g248 rfl rfl rfl (htw _ px_w171) (htw _ px_w1263) (htw _ px_w1281) rfl (by decide +kernel) ⟨Nat.le_of_ble_eq_true rfl, Nat.le_of_ble_eq_true rfl⟩) ⟨fun a U g mk q => by obtain ⟨q0, q1, qP, qK, qD, qN⟩ := q; exact ⟨q0, q1, qP, va_K.moved (u := U) (U := U.calling g mk a) (Vm.Alike.refl U.vm) qK, qD, qN.same rfl⟩, fun U hU hW => ⟨rfl, by rw [hU], by rw [hU]; exact hPc, va_K.moved hW.alike hKc, hDc.weaken (fun _ _ _ _ => trivial), hN.warm hW⟩⟩ rfl rfl hl.1 rfl (lv_room (Nat.le_of_ble_eq_true rfl)) px_d259_100 ⟨hc61_120, hs61_120⟩) hS (fun q _ h => hFc q h) hFc (fun u t H1 locs ht hvm hw hB hz1 hk1 hS => ?_)
                      obtain ⟨v133, v134, v135⟩ := u
                      obtain ⟨hP1, hK1, hD1⟩ := hB
                      rw [ht] at hP1
                      obtain ⟨hP, hD⟩ := va_joinQ (wr := [(ho, .inr (1, [.ref v121, .ref q_t, .int v123])), (v121, .inl (cc.2.1, v122, .inl v124)), (q_t, .inl (cc.2.1, 182, .inl v125))]) (w1 := [(q61_120, .inr (11, [va_rf v133, .int v134, .int v135]))]) hP hD [3] [0, 1, 2] rfl rfl (by decide) (by decide) hk1 hFc hP1 hD1
                      generalize H1 = H at hP hS ⊢
                      have hP : va_P (dC, dI) vwCl (([(ho, .inr (1, [.ref v121, .ref q_t, .int v123])), (v121, .inl (cc.2.1, v122, .inl v124)), (q_t, .inl (cc.2.1, 182, .inl v125)), (q61_120, .inr (11, [va_rf v133, .int v134, .int v135]))] : va_W) ++ px_cp cc ho cm np ns hm pa sa v126 pp ss) H := hP
                      have hD : va_D A (([(ho, .inr (1, [.ref v121, .ref q_t, .int v123])), (v121, .inl (cc.2.1, v122, .inl v124)), (q_t, .inl (cc.2.1, 182, .inl v125)), (q61_120, .inr (11, [va_rf v133, .int v134, .int v135]))] : va_W) ++ px_cp cc ho cm np ns hm pa sa v126 pp ss) := hD
                      obtain ⟨hsr103, hpk103, hw⟩ := hw
                      obtain ⟨pa137, epa137⟩ : ∃ z : Nat → Nat, z = va_up pa np q61_120 := ⟨_, rfl⟩
                      obtain ⟨pp137, epp137⟩ : ∃ z : Nat → px_PR, z = va_up pp np ((pp k59_118).1, v134, v135) := ⟨_, rfl⟩
                      have hsr103 : v133 = some (sa ((pp k59_118).1)) := hsr103
                      have hpk103 : px_pok cm np v126 := hpk103
                      rw [hsr103] at hP hD
                      have hP : va_P (dC, dI) vwCl (([(ho, .inr (1, [.ref v121, .ref q_t, .int v123])), (v121, .inl (cc.2.1, v122, .inl v124)), (q_t, .inl (cc.2.1, 182, .inl v125))] : va_W) ++ px_cp cc ho cm (np + 1) ns hm pa137 sa v126 pp137 ss) H := px_pnP (X := [(ho, .inr (1, [.ref v121, .ref q_t, .int v123])), (v121, .inl (cc.2.1, v122, .inl v124)), (q_t, .inl (cc.2.1, 182, .inl v125))]) hpk103 rfl epa137 epp137 hP
                      have hD : va_D A (([(ho, .inr (1, [.ref v121, .ref q_t, .int v123])), (v121, .inl (cc.2.1, v122, .inl v124)), (q_t, .inl (cc.2.1, 182, .inl v125))] : va_W) ++ px_cp cc ho cm (np + 1) ns hm pa137 sa v126 pp137 ss) := px_pnD (X := [(ho, .inr (1, [.ref v121, .ref q_t, .int v123])), (v121, .inl (cc.2.1, v122, .inl v124)), (q_t, .inl (cc.2.1, 182, .inl v125))]) hpk103 rfl epa137 epp137 hD
                      have hw := hw pa137 pp137 epa137 epp137
                      obtain ⟨ho103_0, hw⟩ := hw
                      rw [show pa a12_73 = pa137 a12_73 by rw [epa137, va_up_ne _ _ (Nat.ne_of_lt ho103_0)]] at hl
                      obtain ⟨ho103_1, hw⟩ := hw
                      rw [show pa k59_118 = pa137 k59_118 by rw [epa137, va_up_ne _ _ (Nat.ne_of_lt ho103_1)]] at hl
                      have eq103 : q61_120 = pa137 np := by rw [epa137, va_up_self]
                      rw [eq103]
                      refine lv_astore (lv' := [(7, .ref (pa137 np)), (6, .ref (pa137 k59_118)), (0, .ref (hm a0x)), (1, .ref (hm a1x)), (2, .int x2), (3, .int x3), (4, .int x4), (5, .int x5), (8, .int x8), (9, .int x9)]) hx hb px_d259_103 hl (by decide) rfl (fun ls hl => ?_)
                      exact S105 x2 x3 x4 x5 (some k59_118) (some np) x8 x9 v121 v122 v123 v124 v125 v126 (np + 1) pa137 pp137 (kc + 1) (ks + 3) H locs ls hc61_120 hs61_120 hP hD hS (lv_sub hl [2, 3, 4, 5, 6, 7, 1, 0, 8, 9] rfl) hw
                | some k47_117 =>
                  have hw := hw.2 k47_117 hz47_117
                  refine W.eq (g2 := F0 m 47 ls (.ref (pa k47_117) :: [])) rfl ?_
                  refine lv_aload hx hb px_d259_47 (lv_at hl 6 rfl) ?_
                  obtain ⟨hpp49, hw⟩ := hw
                  obtain ⟨hqq49, hw⟩ := hw
                  refine lv_acmp_eq (rx := some (pa k47_117)) (ry := some (pa a12_27)) (tgt := 105) hx hb px_d259_49 (by decide) (fun c49 => ?_) (fun c49 => ?_)
                  · have hw := hw.1 (px_painj hD hpp49 hqq49 (Option.some.inj c49))
                    exact S105 x2 x3 x4 x5 (some a12_27) (some a12_73) x8 x9 q_o l_o o_reached g_o g_t mm np pa pp kc ks H locs ls hkc hks hP hD hS (lv_sub hl [0, 1, 2, 3, 4, 5, 6, 7, 8, 9] rfl) hw
                  · have hw := hw.2 (fun z => c49 (congrArg (fun k => some (pa k)) z))
                    refine lv_aload_n hx hb px_d259_52 rfl (lv_at hl 1 rfl) ?_
                    obtain ⟨hp53, hw⟩ := hw
                    refine va_get (D := (dC, dI)) (ci := 10) (v := .ref ((mm a1x).1 1)) (C := "MatroidDesk$Matroid") (T := px_T10) (N := 15) hx hb htw px_in10 hown hK hP (3 + (13 * a1x + 0)) (px_cg0 rfl hp53) rfl 1 (by decide) (htw _ px_w1000) (fun _ h9 => h9) rfl px_d259_53 ?_
                    refine lv_iload hx hb px_d259_56 (lv_at hl 9 rfl) ?_
                    obtain ⟨hp58, hw⟩ := hw
                    obtain ⟨hi58, hw⟩ := hw
                    refine va_aldq hx hb hK hP (3 + (13 * a1x + 1)) 3 (px_cg1 rfl hp58) rfl hi58 px_d259_58 ?_
                    refine W.eq (g2 := F0 m 59 ls (va_rf (Option.map pa ((mm a1x).2.2.2.2.2 (Int32.toNatClampNeg x9))) :: [])) rfl ?_
                    cases hz59_138 : (mm a1x).2.2.2.2.2 (Int32.toNatClampNeg x9) with
                    | none =>
                      have hw := hw.1 hz59_138
                      refine W.eq (g2 := F0 m 59 ls (.null :: [])) rfl ?_
                      refine lv_astoreN (lv' := [(6, .null), (0, .ref (hm a0x)), (1, .ref (hm a1x)), (2, .int x2), (3, .int x3), (4, .int x4), (5, .int x5), (7, .ref (pa a12_73)), (8, .int x8), (9, .int x9)]) hx hb px_d259_59 hl (by decide) rfl (fun ls hl => ?_)
                      obtain ⟨hc61_139, hs61_139, hw⟩ := hw
                      refine va_new (ci := 11) (fs := [.null, .int 0, .int 0]) (C := "MatroidDesk$Part") (T := px_T11) (N := 3) hx hb htw px_in11 px_ty11 px_tyok11 hown (htw _ px_w999) (htw _ px_w172) (htw _ px_w171) hK hP hD hS hA rfl px_df11 hc61_139 hs61_139 px_d259_61 (fun q61_139 H hP hD hS => ?_)
                      have hw := hw q61_139
                      have hP := hP.swap
                      have hD := hD.swap
                      have hP : va_P (dC, dI) vwCl (([(ho, .inr (1, [.ref q_o, .ref q_t, .int o_reached])), (q_o, .inl (cc.2.1, l_o, .inl g_o)), (q_t, .inl (cc.2.1, 182, .inl g_t)), (q61_139, .inr (11, [.null, .int 0, .int 0]))] : va_W) ++ px_cp cc ho cm np ns hm pa sa mm pp ss) H := hP
                      have hD : va_D A (([(ho, .inr (1, [.ref q_o, .ref q_t, .int o_reached])), (q_o, .inl (cc.2.1, l_o, .inl g_o)), (q_t, .inl (cc.2.1, 182, .inl g_t)), (q61_139, .inr (11, [.null, .int 0, .int 0]))] : va_W) ++ px_cp cc ho cm np ns hm pa sa mm pp ss) := hD
                      refine lv_dup hx hb px_d259_64 rfl ?_
                      refine lv_aloadN hx hb px_d259_65 (lv_at hl 0 rfl) ?_
                      exact False.elim hw
                    | some k59_138 =>
                      have hw := hw.2 k59_138 hz59_138
                      refine W.eq (g2 := F0 m 59 ls (.ref (pa k59_138) :: [])) rfl ?_
                      refine lv_astore (lv' := [(6, .ref (pa k59_138)), (0, .ref (hm a0x)), (1, .ref (hm a1x)), (2, .int x2), (3, .int x3), (4, .int x4), (5, .int x5), (7, .ref (pa a12_73)), (8, .int x8), (9, .int x9)]) hx hb px_d259_59 hl (by decide) rfl (fun ls hl => ?_)
                      obtain ⟨hc61_140, hs61_140, hw⟩ := hw
                      refine va_new (ci := 11) (fs := [.null, .int 0, .int 0]) (C := "MatroidDesk$Part") (T := px_T11) (N := 3) hx hb htw px_in11 px_ty11 px_tyok11 hown (htw _ px_w999) (htw _ px_w172) (htw _ px_w171) hK hP hD hS hA rfl px_df11 hc61_140 hs61_140 px_d259_61 (fun q61_140 H hP hD hS => ?_)
                      have hw := hw q61_140
                      have hP := hP.swap
                      have hD := hD.swap
                      have hP : va_P (dC, dI) vwCl (([(ho, .inr (1, [.ref q_o, .ref q_t, .int o_reached])), (q_o, .inl (cc.2.1, l_o, .inl g_o)), (q_t, .inl (cc.2.1, 182, .inl g_t)), (q61_140, .inr (11, [.null, .int 0, .int 0]))] : va_W) ++ px_cp cc ho cm np ns hm pa sa mm pp ss) H := hP
                      have hD : va_D A (([(ho, .inr (1, [.ref q_o, .ref q_t, .int o_reached])), (q_o, .inl (cc.2.1, l_o, .inl g_o)), (q_t, .inl (cc.2.1, 182, .inl g_t)), (q61_140, .inr (11, [.null, .int 0, .int 0]))] : va_W) ++ px_cp cc ho cm np ns hm pa sa mm pp ss) := hD
                      refine lv_dup hx hb px_d259_64 rfl ?_
                      refine lv_aload hx hb px_d259_65 (lv_at hl 0 rfl) ?_
                      obtain ⟨hpp67, hw⟩ := hw
                      refine va_getN (D := (dC, dI)) (ci := 11) (v := .ref (sa (pp k59_138).1)) (C := "MatroidDesk$Part") (T := px_T11) (N := 3) hx hb htw px_in11 hown hK hP (4 + (13 * cm + k59_138)) (px_gp rfl hpp67) rfl 0 (by decide) (va_Nw.use (w := .fieldLinkNest "MatroidDesk$Matroid" 162 "MatroidDesk$Part" "source" "LMatroidDesk$Source;" "MatroidDesk") rfl (hN.1 ("MatroidDesk$Matroid", 162, "MatroidDesk$Part", "source", "LMatroidDesk$Source;", "MatroidDesk") px_nf22)) (fun _ h9 => h9) rfl px_d259_67 ?_
                      refine lv_aload hx hb px_d259_70 (lv_at hl 0 rfl) ?_
                      obtain ⟨hpp72, hw⟩ := hw
                      refine va_getN (D := (dC, dI)) (ci := 11) (v := .int ((pp k59_138).2.1)) (C := "MatroidDesk$Part") (T := px_T11) (N := 3) hx hb htw px_in11 hown hK hP (4 + (13 * cm + k59_138)) (px_gp rfl hpp72) rfl 1 (by decide) (va_Nw.use (w := .fieldLinkNest "MatroidDesk$Matroid" 147 "MatroidDesk$Part" "held" "I" "MatroidDesk") rfl (hN.1 ("MatroidDesk$Matroid", 147, "MatroidDesk$Part", "held", "I", "MatroidDesk") px_nf23)) (fun _ h9 => h9) rfl px_d259_72 ?_
                      refine lv_aload_n hx hb px_d259_75 rfl (lv_at hl 2 rfl) ?_
                      refine lv_aload hx hb px_d259_76 (lv_at hl 0 rfl) ?_
                      refine lv_iload_n hx hb px_d259_78 rfl (lv_at hl 4 rfl) ?_
                      refine lv_iload hx hb px_d259_79 (lv_at hl 5 rfl) ?_
                      obtain ⟨hp81, hw⟩ := hw
                      have hPc := hP.part (cx := [(ho, .inr (1, [.ref q_o, .ref q_t, .int o_reached])), (q_o, .inl (cc.2.1, l_o, .inl g_o)), (q_t, .inl (cc.2.1, 182, .inl g_t))]) [0, 1, 2] rfl
                      have hDc := hD.part (cx := [(ho, .inr (1, [.ref q_o, .ref q_t, .int o_reached])), (q_o, .inl (cc.2.1, l_o, .inl g_o)), (q_t, .inl (cc.2.1, 182, .inl g_t))]) [0, 1, 2] (by decide) rfl
                      have hFc := va_freeP (cx := [(ho, .inr (1, [.ref q_o, .ref q_t, .int o_reached])), (q_o, .inl (cc.2.1, l_o, .inl g_o)), (q_t, .inl (cc.2.1, 182, .inl g_t))]) hD hS hA [0, 1, 2] rfl
                      have hKc := hK.sub (tys' := [(cc.2.1, .int), (cc.2.2.2.1, .byte), (cc.2.2.2.2, .long), (cc.1, .object "MatroidDesk$Part"), (cc.2.2.1, (.array .int))]) [0, 1, 2, 3, 4] rfl
                      refine va_calli (va_runV (As := [.ref (pa k59_138), .int x3, .int x4]) (rest := [.int ((pp k59_138).2.1), .ref (sa (pp k59_138).1), .ref q61_140, .ref q61_140]) ⟨hx, hb, hml, hown, htw⟩ (w260_met l dC dI H.size ho q_t a1x cc cm np ns hm pa sa pp ss k59_138 x3 x4 q_o l_o o_reached g_o g_t mm _ hw) (cwV 3 htw (px_gv px_w1328 px_w1330 px_w1331 px_w154 px_g260) rfl rfl rfl (by decide +kernel) ⟨Nat.le_of_ble_eq_true rfl, Nat.le_of_ble_eq_true rfl⟩) ⟨fun a U g mk q => by obtain ⟨q0, q1, qP, qK, qD, qN⟩ := q; exact ⟨q0, q1, qP, va_K.moved (u := U) (U := U.calling g mk a) (Vm.Alike.refl U.vm) qK, qD, qN.same rfl⟩, va_recv hK hP (ci := 10) (q0 := (4 + (13 * a1x + 0))) rfl (px_cg0 rfl hp81), fun U hU hW => ⟨rfl, by rw [hU], by rw [hU]; exact hPc, va_K.moved hW.alike hKc, hDc.weaken (fun _ _ _ _ => trivial), hN.warm hW⟩⟩ rfl rfl hl.1 rfl (lv_room (Nat.le_of_ble_eq_true rfl)) px_d259_81 ⟨hc61_140, hs61_140⟩) hS (fun q _ h => hFc q h) hFc (fun r81 u t H1 locs ht hvm hw hB hz1 hk1 hS => ?_)
                      obtain ⟨v141, v142, v143, v144, v145, v146⟩ := u
                      obtain ⟨hP1, hK1, hD1⟩ := hB
                      rw [ht] at hP1
                      obtain ⟨hP, hD⟩ := va_joinP (wr := [(q61_140, .inr (11, [.null, .int 0, .int 0]))]) (rx := [(ho, .inr (1, [.ref v141, .ref q_t, .int v143])), (v141, .inl (cc.2.1, v142, .inl v144)), (q_t, .inl (cc.2.1, 182, .inl v145))]) hP hD [0, 1, 2] [3] rfl rfl (by decide) (by decide) hk1 hFc hP1 hD1
                      generalize H1 = H at hP hS ⊢
                      have hP : va_P (dC, dI) vwCl (([(q61_140, .inr (11, [.null, .int 0, .int 0])), (ho, .inr (1, [.ref v141, .ref q_t, .int v143])), (v141, .inl (cc.2.1, v142, .inl v144)), (q_t, .inl (cc.2.1, 182, .inl v145))] : va_W) ++ px_cp cc ho cm np ns hm pa sa v146 pp ss) H := hP
                      have hD : va_D A (([(q61_140, .inr (11, [.null, .int 0, .int 0])), (ho, .inr (1, [.ref v141, .ref q_t, .int v143])), (v141, .inl (cc.2.1, v142, .inl v144)), (q_t, .inl (cc.2.1, 182, .inl v145))] : va_W) ++ px_cp cc ho cm np ns hm pa sa v146 pp ss) := hD
                      have hP := hP.part (cx := [(ho, .inr (1, [.ref v141, .ref q_t, .int v143])), (v141, .inl (cc.2.1, v142, .inl v144)), (q_t, .inl (cc.2.1, 182, .inl v145)), (q61_140, .inr (11, [.null, .int 0, .int 0]))]) [1, 2, 3, 0] rfl
                      have hD := hD.part (cx := [(ho, .inr (1, [.ref v141, .ref q_t, .int v143])), (v141, .inl (cc.2.1, v142, .inl v144)), (q_t, .inl (cc.2.1, 182, .inl v145)), (q61_140, .inr (11, [.null, .int 0, .int 0]))]) [1, 2, 3, 0] (by decide) rfl
                      refine lv_ior hx hb px_d259_84 ?_
                      refine lv_aload hx hb px_d259_85 (lv_at hl 0 rfl) ?_
                      obtain ⟨hpp87, hw⟩ := hw
                      refine va_getN (D := (dC, dI)) (ci := 11) (v := .int ((pp k59_138).2.2)) (C := "MatroidDesk$Part") (T := px_T11) (N := 3) hx hb htw px_in11 hown hK hP (4 + (13 * cm + k59_138)) (px_gp rfl hpp87) rfl 2 (by decide) (va_Nw.use (w := .fieldLinkNest "MatroidDesk$Matroid" 150 "MatroidDesk$Part" "turned" "Z" "MatroidDesk") rfl (hN.1 ("MatroidDesk$Matroid", 150, "MatroidDesk$Part", "turned", "Z", "MatroidDesk") px_nf24)) (fun _ h9 => h9) rfl px_d259_87 ?_
                      refine lv_iload hx hb px_d259_90 (lv_at hl 6 rfl) ?_
                      refine lv_icmp_eq (tgt := 99) hx hb px_d259_92 (by decide) (fun c92 => ?_) (fun c92 => ?_)
                      · have hw := hw.1 c92
                        refine lv_iconst (v := 0) hx hb px_d259_99 (by decide) ?_
                        have hPc := hP.sub (ws' := [(q61_140, .inr (11, [.null, .int 0, .int 0]))]) [3] rfl
                        have hDc := hD.sub (ws' := [(q61_140, .inr (11, [.null, .int 0, .int 0]))]) [3] (by decide) rfl
                        have hFc := va_free (wc := [(q61_140, .inr (11, [.null, .int 0, .int 0]))]) hD hS hA [3] rfl
                        have hKc := hK.sub (tys' := []) [] rfl
                        refine va_callv (va_runI (As := [.ref (sa (pp k59_138).1), .int (((pp k59_138).2.1) ||| r81), .int 0]) (rest := [.ref q61_140]) ⟨hx, hb, hml, hown, htw⟩ (w248_met l dC dI H.size q61_140 (sa (pp k59_138).1) (((pp k59_138).2.1) ||| r81) 0 none 0 0 _ hw) (cwI 3 htw px_g248 rfl rfl rfl (htw _ px_w171) (htw _ px_w1263) (htw _ px_w1281) rfl (by decide +kernel) ⟨Nat.le_of_ble_eq_true rfl, Nat.le_of_ble_eq_true rfl⟩) ⟨fun a U g mk q => by obtain ⟨q0, q1, qP, qK, qD, qN⟩ := q; exact ⟨q0, q1, qP, va_K.moved (u := U) (U := U.calling g mk a) (Vm.Alike.refl U.vm) qK, qD, qN.same rfl⟩, fun U hU hW => ⟨rfl, by rw [hU], by rw [hU]; exact hPc, va_K.moved hW.alike hKc, hDc.weaken (fun _ _ _ _ => trivial), hN.warm hW⟩⟩ rfl rfl hl.1 rfl (lv_room (Nat.le_of_ble_eq_true rfl)) px_d259_100 ⟨hc61_140, hs61_140⟩) hS (fun q _ h => hFc q h) hFc (fun u t H1 locs ht hvm hw hB hz1 hk1 hS => ?_)
                        obtain ⟨v148, v149, v150⟩ := u
                        obtain ⟨hP1, hK1, hD1⟩ := hB
                        rw [ht] at hP1
                        obtain ⟨hP, hD⟩ := va_joinQ (wr := [(ho, .inr (1, [.ref v141, .ref q_t, .int v143])), (v141, .inl (cc.2.1, v142, .inl v144)), (q_t, .inl (cc.2.1, 182, .inl v145))]) (w1 := [(q61_140, .inr (11, [va_rf v148, .int v149, .int v150]))]) hP hD [3] [0, 1, 2] rfl rfl (by decide) (by decide) hk1 hFc hP1 hD1
                        generalize H1 = H at hP hS ⊢
                        have hP : va_P (dC, dI) vwCl (([(ho, .inr (1, [.ref v141, .ref q_t, .int v143])), (v141, .inl (cc.2.1, v142, .inl v144)), (q_t, .inl (cc.2.1, 182, .inl v145)), (q61_140, .inr (11, [va_rf v148, .int v149, .int v150]))] : va_W) ++ px_cp cc ho cm np ns hm pa sa v146 pp ss) H := hP
                        have hD : va_D A (([(ho, .inr (1, [.ref v141, .ref q_t, .int v143])), (v141, .inl (cc.2.1, v142, .inl v144)), (q_t, .inl (cc.2.1, 182, .inl v145)), (q61_140, .inr (11, [va_rf v148, .int v149, .int v150]))] : va_W) ++ px_cp cc ho cm np ns hm pa sa v146 pp ss) := hD
                        obtain ⟨hsr103, hpk103, hw⟩ := hw
                        obtain ⟨pa152, epa152⟩ : ∃ z : Nat → Nat, z = va_up pa np q61_140 := ⟨_, rfl⟩
                        obtain ⟨pp152, epp152⟩ : ∃ z : Nat → px_PR, z = va_up pp np ((pp k59_138).1, v149, v150) := ⟨_, rfl⟩
                        have hsr103 : v148 = some (sa ((pp k59_138).1)) := hsr103
                        have hpk103 : px_pok cm np v146 := hpk103
                        rw [hsr103] at hP hD
                        have hP : va_P (dC, dI) vwCl (([(ho, .inr (1, [.ref v141, .ref q_t, .int v143])), (v141, .inl (cc.2.1, v142, .inl v144)), (q_t, .inl (cc.2.1, 182, .inl v145))] : va_W) ++ px_cp cc ho cm (np + 1) ns hm pa152 sa v146 pp152 ss) H := px_pnP (X := [(ho, .inr (1, [.ref v141, .ref q_t, .int v143])), (v141, .inl (cc.2.1, v142, .inl v144)), (q_t, .inl (cc.2.1, 182, .inl v145))]) hpk103 rfl epa152 epp152 hP
                        have hD : va_D A (([(ho, .inr (1, [.ref v141, .ref q_t, .int v143])), (v141, .inl (cc.2.1, v142, .inl v144)), (q_t, .inl (cc.2.1, 182, .inl v145))] : va_W) ++ px_cp cc ho cm (np + 1) ns hm pa152 sa v146 pp152 ss) := px_pnD (X := [(ho, .inr (1, [.ref v141, .ref q_t, .int v143])), (v141, .inl (cc.2.1, v142, .inl v144)), (q_t, .inl (cc.2.1, 182, .inl v145))]) hpk103 rfl epa152 epp152 hD
                        have hw := hw pa152 pp152 epa152 epp152
                        obtain ⟨ho103_0, hw⟩ := hw
                        rw [show pa a12_73 = pa152 a12_73 by rw [epa152, va_up_ne _ _ (Nat.ne_of_lt ho103_0)]] at hl
                        obtain ⟨ho103_1, hw⟩ := hw
                        rw [show pa k59_138 = pa152 k59_138 by rw [epa152, va_up_ne _ _ (Nat.ne_of_lt ho103_1)]] at hl
                        have eq103 : q61_140 = pa152 np := by rw [epa152, va_up_self]
                        rw [eq103]
                        refine lv_astore (lv' := [(7, .ref (pa152 np)), (6, .ref (pa152 k59_138)), (0, .ref (hm a0x)), (1, .ref (hm a1x)), (2, .int x2), (3, .int x3), (4, .int x4), (5, .int x5), (8, .int x8), (9, .int x9)]) hx hb px_d259_103 hl (by decide) rfl (fun ls hl => ?_)
                        exact S105 x2 x3 x4 x5 (some k59_138) (some np) x8 x9 v141 v142 v143 v144 v145 v146 (np + 1) pa152 pp152 (kc + 1) (ks + 3) H locs ls hc61_140 hs61_140 hP hD hS (lv_sub hl [2, 3, 4, 5, 6, 7, 1, 0, 8, 9] rfl) hw
                      · have hw := hw.2 c92
                        refine lv_iconst (v := 1) hx hb px_d259_95 (by decide) ?_
                        refine lv_goto (tgt := 100) hx hb px_d259_96 (by decide) ?_
                        have hPc := hP.sub (ws' := [(q61_140, .inr (11, [.null, .int 0, .int 0]))]) [3] rfl
                        have hDc := hD.sub (ws' := [(q61_140, .inr (11, [.null, .int 0, .int 0]))]) [3] (by decide) rfl
                        have hFc := va_free (wc := [(q61_140, .inr (11, [.null, .int 0, .int 0]))]) hD hS hA [3] rfl
                        have hKc := hK.sub (tys' := []) [] rfl
                        refine va_callv (va_runI (As := [.ref (sa (pp k59_138).1), .int (((pp k59_138).2.1) ||| r81), .int 1]) (rest := [.ref q61_140]) ⟨hx, hb, hml, hown, htw⟩ (w248_met l dC dI H.size q61_140 (sa (pp k59_138).1) (((pp k59_138).2.1) ||| r81) 1 none 0 0 _ hw) (cwI 3 htw px_g248 rfl rfl rfl (htw _ px_w171) (htw _ px_w1263) (htw _ px_w1281) rfl (by decide +kernel) ⟨Nat.le_of_ble_eq_true rfl, Nat.le_of_ble_eq_true rfl⟩) ⟨fun a U g mk q => by obtain ⟨q0, q1, qP, qK, qD, qN⟩ := q; exact ⟨q0, q1, qP, va_K.moved (u := U) (U := U.calling g mk a) (Vm.Alike.refl U.vm) qK, qD, qN.same rfl⟩, fun U hU hW => ⟨rfl, by rw [hU], by rw [hU]; exact hPc, va_K.moved hW.alike hKc, hDc.weaken (fun _ _ _ _ => trivial), hN.warm hW⟩⟩ rfl rfl hl.1 rfl (lv_room (Nat.le_of_ble_eq_true rfl)) px_d259_100 ⟨hc61_140, hs61_140⟩) hS (fun q _ h => hFc q h) hFc (fun u t H1 locs ht hvm hw hB hz1 hk1 hS => ?_)
                        obtain ⟨v153, v154, v155⟩ := u
                        obtain ⟨hP1, hK1, hD1⟩ := hB
                        rw [ht] at hP1
                        obtain ⟨hP, hD⟩ := va_joinQ (wr := [(ho, .inr (1, [.ref v141, .ref q_t, .int v143])), (v141, .inl (cc.2.1, v142, .inl v144)), (q_t, .inl (cc.2.1, 182, .inl v145))]) (w1 := [(q61_140, .inr (11, [va_rf v153, .int v154, .int v155]))]) hP hD [3] [0, 1, 2] rfl rfl (by decide) (by decide) hk1 hFc hP1 hD1
                        generalize H1 = H at hP hS ⊢
                        have hP : va_P (dC, dI) vwCl (([(ho, .inr (1, [.ref v141, .ref q_t, .int v143])), (v141, .inl (cc.2.1, v142, .inl v144)), (q_t, .inl (cc.2.1, 182, .inl v145)), (q61_140, .inr (11, [va_rf v153, .int v154, .int v155]))] : va_W) ++ px_cp cc ho cm np ns hm pa sa v146 pp ss) H := hP
                        have hD : va_D A (([(ho, .inr (1, [.ref v141, .ref q_t, .int v143])), (v141, .inl (cc.2.1, v142, .inl v144)), (q_t, .inl (cc.2.1, 182, .inl v145)), (q61_140, .inr (11, [va_rf v153, .int v154, .int v155]))] : va_W) ++ px_cp cc ho cm np ns hm pa sa v146 pp ss) := hD
                        obtain ⟨hsr103, hpk103, hw⟩ := hw
                        obtain ⟨pa157, epa157⟩ : ∃ z : Nat → Nat, z = va_up pa np q61_140 := ⟨_, rfl⟩
                        obtain ⟨pp157, epp157⟩ : ∃ z : Nat → px_PR, z = va_up pp np ((pp k59_138).1, v154, v155) := ⟨_, rfl⟩
                        have hsr103 : v153 = some (sa ((pp k59_138).1)) := hsr103
                        have hpk103 : px_pok cm np v146 := hpk103
                        rw [hsr103] at hP hD
                        have hP : va_P (dC, dI) vwCl (([(ho, .inr (1, [.ref v141, .ref q_t, .int v143])), (v141, .inl (cc.2.1, v142, .inl v144)), (q_t, .inl (cc.2.1, 182, .inl v145))] : va_W) ++ px_cp cc ho cm (np + 1) ns hm pa157 sa v146 pp157 ss) H := px_pnP (X := [(ho, .inr (1, [.ref v141, .ref q_t, .int v143])), (v141, .inl (cc.2.1, v142, .inl v144)), (q_t, .inl (cc.2.1, 182, .inl v145))]) hpk103 rfl epa157 epp157 hP
                        have hD : va_D A (([(ho, .inr (1, [.ref v141, .ref q_t, .int v143])), (v141, .inl (cc.2.1, v142, .inl v144)), (q_t, .inl (cc.2.1, 182, .inl v145))] : va_W) ++ px_cp cc ho cm (np + 1) ns hm pa157 sa v146 pp157 ss) := px_pnD (X := [(ho, .inr (1, [.ref v141, .ref q_t, .int v143])), (v141, .inl (cc.2.1, v142, .inl v144)), (q_t, .inl (cc.2.1, 182, .inl v145))]) hpk103 rfl epa157 epp157 hD
                        have hw := hw pa157 pp157 epa157 epp157
                        obtain ⟨ho103_0, hw⟩ := hw
                        rw [show pa a12_73 = pa157 a12_73 by rw [epa157, va_up_ne _ _ (Nat.ne_of_lt ho103_0)]] at hl
                        obtain ⟨ho103_1, hw⟩ := hw
                        rw [show pa k59_138 = pa157 k59_138 by rw [epa157, va_up_ne _ _ (Nat.ne_of_lt ho103_1)]] at hl
                        have eq103 : q61_140 = pa157 np := by rw [epa157, va_up_self]
                        rw [eq103]
                        refine lv_astore (lv' := [(7, .ref (pa157 np)), (6, .ref (pa157 k59_138)), (0, .ref (hm a0x)), (1, .ref (hm a1x)), (2, .int x2), (3, .int x3), (4, .int x4), (5, .int x5), (8, .int x8), (9, .int x9)]) hx hb px_d259_103 hl (by decide) rfl (fun ls hl => ?_)
                        exact S105 x2 x3 x4 x5 (some k59_138) (some np) x8 x9 v141 v142 v143 v144 v145 v146 (np + 1) pa157 pp157 (kc + 1) (ks + 3) H locs ls hc61_140 hs61_140 hP hD hS (lv_sub hl [2, 3, 4, 5, 6, 7, 1, 0, 8, 9] rfl) hw
  unfold w259_wp at hw
  have hS0 := hS
  obtain ⟨H, hH9⟩ : ∃ z, z = s.heap := ⟨_, rfl⟩
  have hP : va_P (dC, dI) vwCl (([(ho, .inr (1, [.ref q_o, .ref q_t, .int o_reached])), (q_o, .inl (cc.2.1, l_o, .inl g_o)), (q_t, .inl (cc.2.1, 182, .inl g_t))] : va_W) ++ px_cp cc ho cm np ns hm pa sa mm pp ss) H := by rw [hH9]; exact hP
  obtain ⟨locs, hlo9⟩ : ∃ z : List Loc, z = [] := ⟨_, rfl⟩
  have hS : va_S A s.heap H locs := by rw [hH9, hlo9]; exact hS
  suffices hG : W p l e (headSpec px_s259 ({ frames := 2, cells := mc, slots := ms, locals := 35 })).room s m ([.ref (hm a0x), .ref (hm a1x), .int a2x, .int a3x, .int a4x, .int a5x]).toArray below meth c H locs 0 0 Q (F0 m 0 ls []) by rw [hH9, hlo9] at hG; exact hG
  refine lv_null hx hb px_d259_0 ?_
  refine lv_astoreN (lv' := [(6, .null), (0, .ref (hm a0x)), (1, .ref (hm a1x)), (2, .int a2x), (3, .int a3x), (4, .int a4x), (5, .int a5x)]) hx hb px_d259_1 hl (by decide) rfl (fun ls hl => ?_)
  refine lv_null hx hb px_d259_3 ?_
  refine lv_astoreN (lv' := [(7, .null), (6, .null), (0, .ref (hm a0x)), (1, .ref (hm a1x)), (2, .int a2x), (3, .int a3x), (4, .int a4x), (5, .int a5x)]) hx hb px_d259_4 hl (by decide) rfl (fun ls hl => ?_)
  refine lv_iload_n hx hb px_d259_6 rfl (lv_at hl 4 rfl) ?_
  refine lv_istore (lv' := [(8, .int a2x), (7, .null), (6, .null), (0, .ref (hm a0x)), (1, .ref (hm a1x)), (2, .int a2x), (3, .int a3x), (4, .int a4x), (5, .int a5x)]) hx hb px_d259_7 hl (by decide) rfl (fun ls hl => ?_)
  refine lv_iconst (v := 0) hx hb px_d259_9 (by decide) ?_
  refine lv_istore (lv' := [(9, .int 0), (8, .int a2x), (7, .null), (6, .null), (0, .ref (hm a0x)), (1, .ref (hm a1x)), (2, .int a2x), (3, .int a3x), (4, .int a4x), (5, .int a5x)]) hx hb px_d259_10 hl (by decide) rfl (fun ls hl => ?_)
  obtain ⟨k9, hw⟩ := hw
  exact S12 k9 a2x a3x a4x a5x none none a2x 0 q_o l_o o_reached g_o g_t mm np pa pp 0 0 H locs ls (Nat.zero_le mc) (Nat.zero_le ms) hP hD hS (lv_sub hl [4, 5, 6, 7, 8, 9, 3, 2, 1, 0] rfl) hw

