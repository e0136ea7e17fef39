def W_X12_expression : Nat → Nat → Hp → Int32 → Int32 → Option Hp
  | 0 => fun _ _ _ _ => none
  | n + 1 => fun hd h l1 l2 => (if hd = 12 then (if (l2 : Int32) = 0 then some h else (if ((hi h 226 13) : Int32) = 0 then W_X12_expression n 23 h  l1 l2 else some h)) else (if hd = 23 then ((F_X12_is n h 6).bind (fun q3 => (if (q3.1 : Int32) = 0 then ((F_X12_unit n q3.2).bind (fun q6 => (if ((hi q6 226 13) : Int32) ≤ 0 then W_X12_expression n 96 q6  l1 l2 else some q6))) else (if ((hi q3.2 226 12) : Int32) = (6 : Int32) then ((F_X12_fail n q3.2 2).bind (fun q13 => ((F_X12_goesOn n (wrI q13 226 12 ((hi q13 226 12) + 1))).bind (fun q15 => (if ixOK (hi q15 226 49) 64 = true then W_X12_expression n 23 (wrI (wrI q15 259 (Int32.toNatClampNeg (hi q15 226 49)) 6) 226 49 ((hi (wrI q15 259 (Int32.toNatClampNeg (hi q15 226 49)) 6) 226 49) + 1))  l1 l2 else none))))) else ((F_X12_goesOn n (wrI q3.2 226 12 ((hi q3.2 226 12) + 1))).bind (fun q10 => (if ixOK (hi q10 226 49) 64 = true then W_X12_expression n 23 (wrI (wrI q10 259 (Int32.toNatClampNeg (hi q10 226 49)) 6) 226 49 ((hi (wrI q10 259 (Int32.toNatClampNeg (hi q10 226 49)) 6) 226 49) + 1))  l1 l2 else none))))))) else (if hd = 96 then ((F_X12_is n h 7).bind (fun q18 => (if (q18.1 : Int32) = 0 then ((F_X12_is n q18.2 8).bind (fun q21 => (if (q21.1 : Int32) = 0 then ((F_X12_is n q21.2 9).bind (fun q56 => (if (q56.1 : Int32) = 0 then ((F_X12_is n q56.2 10).bind (fun q91 => (if (q91.1 : Int32) = 0 then ((F_X12_is n q91.2 15).bind (fun q126 => (if (q126.1 : Int32) = 0 then (if (0 : Int32) = 0 then (if ((hi q126.2 226 12) : Int32) ≤ (l1 : Int32) then ((F_X12_comesOut n q126.2 0).bind (fun q155 => some q155)) else ((F_X12_fail n q126.2 1).bind (fun q157 => ((F_X12_comesOut n q157 0).bind (fun q159 => some q159))))) else ((F_X12_is n q126.2 10).bind (fun q130 => (if (q130.1 : Int32) = 0 then ((F_X12_is n q130.2 15).bind (fun q139 => (if (q139.1 : Int32) = 0 then ((F_X12_comesOut n q139.2 0).bind (fun q142 => (if ixOK (hi q142 226 11) 403 = true then (if ixOK (hi q142 226 49) 64 = true then ((F_X12_goesOn n (wrI (wrI q142 259 (Int32.toNatClampNeg (hi q142 226 49)) (hi q142 229 (Int32.toNatClampNeg (hi q142 226 11)))) 226 49 ((hi (wrI q142 259 (Int32.toNatClampNeg (hi q142 226 49)) (hi q142 229 (Int32.toNatClampNeg (hi q142 226 11)))) 226 49) + 1))).bind (fun q146 => W_X12_expression n 12 q146  l1 0)) else none) else none))) else ((F_X12_comesOut n q139.2 1).bind (fun q148 => (if ixOK (hi q148 226 11) 403 = true then (if ixOK (hi q148 226 49) 64 = true then ((F_X12_goesOn n (wrI (wrI q148 259 (Int32.toNatClampNeg (hi q148 226 49)) (hi q148 229 (Int32.toNatClampNeg (hi q148 226 11)))) 226 49 ((hi (wrI q148 259 (Int32.toNatClampNeg (hi q148 226 49)) (hi q148 229 (Int32.toNatClampNeg (hi q148 226 11)))) 226 49) + 1))).bind (fun q152 => W_X12_expression n 12 q152  l1 0)) else none) else none)))))) else ((F_X12_comesOut n q130.2 1).bind (fun q133 => (if ixOK (hi q133 226 11) 403 = true then (if ixOK (hi q133 226 49) 64 = true then ((F_X12_goesOn n (wrI (wrI q133 259 (Int32.toNatClampNeg (hi q133 226 49)) (hi q133 229 (Int32.toNatClampNeg (hi q133 226 11)))) 226 49 ((hi (wrI q133 259 (Int32.toNatClampNeg (hi q133 226 49)) (hi q133 229 (Int32.toNatClampNeg (hi q133 226 11)))) 226 49) + 1))).bind (fun q137 => W_X12_expression n 12 q137  l1 0)) else none) else none))))))) else (if (1 : Int32) = 0 then (if ((hi q126.2 226 12) : Int32) ≤ (l1 : Int32) then ((F_X12_comesOut n q126.2 0).bind (fun q187 => some q187)) else ((F_X12_fail n q126.2 1).bind (fun q189 => ((F_X12_comesOut n q189 0).bind (fun q191 => some q191))))) else ((F_X12_is n q126.2 10).bind (fun q162 => (if (q162.1 : Int32) = 0 then ((F_X12_is n q162.2 15).bind (fun q171 => (if (q171.1 : Int32) = 0 then ((F_X12_comesOut n q171.2 0).bind (fun q174 => (if ixOK (hi q174 226 11) 403 = true then (if ixOK (hi q174 226 49) 64 = true then ((F_X12_goesOn n (wrI (wrI q174 259 (Int32.toNatClampNeg (hi q174 226 49)) (hi q174 229 (Int32.toNatClampNeg (hi q174 226 11)))) 226 49 ((hi (wrI q174 259 (Int32.toNatClampNeg (hi q174 226 49)) (hi q174 229 (Int32.toNatClampNeg (hi q174 226 11)))) 226 49) + 1))).bind (fun q178 => W_X12_expression n 12 q178  l1 1)) else none) else none))) else ((F_X12_comesOut n q171.2 1).bind (fun q180 => (if ixOK (hi q180 226 11) 403 = true then (if ixOK (hi q180 226 49) 64 = true then ((F_X12_goesOn n (wrI (wrI q180 259 (Int32.toNatClampNeg (hi q180 226 49)) (hi q180 229 (Int32.toNatClampNeg (hi q180 226 11)))) 226 49 ((hi (wrI q180 259 (Int32.toNatClampNeg (hi q180 226 49)) (hi q180 229 (Int32.toNatClampNeg (hi q180 226 11)))) 226 49) + 1))).bind (fun q184 => W_X12_expression n 12 q184  l1 1)) else none) else none)))))) else ((F_X12_comesOut n q162.2 1).bind (fun q165 => (if ixOK (hi q165 226 11) 403 = true then (if ixOK (hi q165 226 49) 64 = true then ((F_X12_goesOn n (wrI (wrI q165 259 (Int32.toNatClampNeg (hi q165 226 49)) (hi q165 229 (Int32.toNatClampNeg (hi q165 226 11)))) 226 49 ((hi (wrI q165 259 (Int32.toNatClampNeg (hi q165 226 49)) (hi q165 229 (Int32.toNatClampNeg (hi q165 226 11)))) 226 49) + 1))).bind (fun q169 => W_X12_expression n 12 q169  l1 1)) else none) else none)))))))))) else (if (1 : Int32) = 0 then (if ((hi q91.2 226 12) : Int32) ≤ (l1 : Int32) then ((F_X12_comesOut n q91.2 0).bind (fun q120 => some q120)) else ((F_X12_fail n q91.2 1).bind (fun q122 => ((F_X12_comesOut n q122 0).bind (fun q124 => some q124))))) else ((F_X12_is n q91.2 10).bind (fun q95 => (if (q95.1 : Int32) = 0 then ((F_X12_is n q95.2 15).bind (fun q104 => (if (q104.1 : Int32) = 0 then ((F_X12_comesOut n q104.2 0).bind (fun q107 => (if ixOK (hi q107 226 11) 403 = true then (if ixOK (hi q107 226 49) 64 = true then ((F_X12_goesOn n (wrI (wrI q107 259 (Int32.toNatClampNeg (hi q107 226 49)) (hi q107 229 (Int32.toNatClampNeg (hi q107 226 11)))) 226 49 ((hi (wrI q107 259 (Int32.toNatClampNeg (hi q107 226 49)) (hi q107 229 (Int32.toNatClampNeg (hi q107 226 11)))) 226 49) + 1))).bind (fun q111 => W_X12_expression n 12 q111  l1 1)) else none) else none))) else ((F_X12_comesOut n q104.2 1).bind (fun q113 => (if ixOK (hi q113 226 11) 403 = true then (if ixOK (hi q113 226 49) 64 = true then ((F_X12_goesOn n (wrI (wrI q113 259 (Int32.toNatClampNeg (hi q113 226 49)) (hi q113 229 (Int32.toNatClampNeg (hi q113 226 11)))) 226 49 ((hi (wrI q113 259 (Int32.toNatClampNeg (hi q113 226 49)) (hi q113 229 (Int32.toNatClampNeg (hi q113 226 11)))) 226 49) + 1))).bind (fun q117 => W_X12_expression n 12 q117  l1 1)) else none) else none)))))) else ((F_X12_comesOut n q95.2 1).bind (fun q98 => (if ixOK (hi q98 226 11) 403 = true then (if ixOK (hi q98 226 49) 64 = true then ((F_X12_goesOn n (wrI (wrI q98 259 (Int32.toNatClampNeg (hi q98 226 49)) (hi q98 229 (Int32.toNatClampNeg (hi q98 226 11)))) 226 49 ((hi (wrI q98 259 (Int32.toNatClampNeg (hi q98 226 49)) (hi q98 229 (Int32.toNatClampNeg (hi q98 226 11)))) 226 49) + 1))).bind (fun q102 => W_X12_expression n 12 q102  l1 1)) else none) else none)))))))))) else (if (1 : Int32) = 0 then (if ((hi q56.2 226 12) : Int32) ≤ (l1 : Int32) then ((F_X12_comesOut n q56.2 0).bind (fun q85 => some q85)) else ((F_X12_fail n q56.2 1).bind (fun q87 => ((F_X12_comesOut n q87 0).bind (fun q89 => some q89))))) else ((F_X12_is n q56.2 10).bind (fun q60 => (if (q60.1 : Int32) = 0 then ((F_X12_is n q60.2 15).bind (fun q69 => (if (q69.1 : Int32) = 0 then ((F_X12_comesOut n q69.2 0).bind (fun q72 => (if ixOK (hi q72 226 11) 403 = true then (if ixOK (hi q72 226 49) 64 = true then ((F_X12_goesOn n (wrI (wrI q72 259 (Int32.toNatClampNeg (hi q72 226 49)) (hi q72 229 (Int32.toNatClampNeg (hi q72 226 11)))) 226 49 ((hi (wrI q72 259 (Int32.toNatClampNeg (hi q72 226 49)) (hi q72 229 (Int32.toNatClampNeg (hi q72 226 11)))) 226 49) + 1))).bind (fun q76 => W_X12_expression n 12 q76  l1 1)) else none) else none))) else ((F_X12_comesOut n q69.2 1).bind (fun q78 => (if ixOK (hi q78 226 11) 403 = true then (if ixOK (hi q78 226 49) 64 = true then ((F_X12_goesOn n (wrI (wrI q78 259 (Int32.toNatClampNeg (hi q78 226 49)) (hi q78 229 (Int32.toNatClampNeg (hi q78 226 11)))) 226 49 ((hi (wrI q78 259 (Int32.toNatClampNeg (hi q78 226 49)) (hi q78 229 (Int32.toNatClampNeg (hi q78 226 11)))) 226 49) + 1))).bind (fun q82 => W_X12_expression n 12 q82  l1 1)) else none) else none)))))) else ((F_X12_comesOut n q60.2 1).bind (fun q63 => (if ixOK (hi q63 226 11) 403 = true then (if ixOK (hi q63 226 49) 64 = true then ((F_X12_goesOn n (wrI (wrI q63 259 (Int32.toNatClampNeg (hi q63 226 49)) (hi q63 229 (Int32.toNatClampNeg (hi q63 226 11)))) 226 49 ((hi (wrI q63 259 (Int32.toNatClampNeg (hi q63 226 49)) (hi q63 229 (Int32.toNatClampNeg (hi q63 226 11)))) 226 49) + 1))).bind (fun q67 => W_X12_expression n 12 q67  l1 1)) else none) else none)))))))))) else (if (1 : Int32) = 0 then (if ((hi q21.2 226 12) : Int32) ≤ (l1 : Int32) then ((F_X12_comesOut n q21.2 0).bind (fun q50 => some q50)) else ((F_X12_fail n q21.2 1).bind (fun q52 => ((F_X12_comesOut n q52 0).bind (fun q54 => some q54))))) else ((F_X12_is n q21.2 10).bind (fun q25 => (if (q25.1 : Int32) = 0 then ((F_X12_is n q25.2 15).bind (fun q34 => (if (q34.1 : Int32) = 0 then ((F_X12_comesOut n q34.2 0).bind (fun q37 => (if ixOK (hi q37 226 11) 403 = true then (if ixOK (hi q37 226 49) 64 = true then ((F_X12_goesOn n (wrI (wrI q37 259 (Int32.toNatClampNeg (hi q37 226 49)) (hi q37 229 (Int32.toNatClampNeg (hi q37 226 11)))) 226 49 ((hi (wrI q37 259 (Int32.toNatClampNeg (hi q37 226 49)) (hi q37 229 (Int32.toNatClampNeg (hi q37 226 11)))) 226 49) + 1))).bind (fun q41 => W_X12_expression n 12 q41  l1 1)) else none) else none))) else ((F_X12_comesOut n q34.2 1).bind (fun q43 => (if ixOK (hi q43 226 11) 403 = true then (if ixOK (hi q43 226 49) 64 = true then ((F_X12_goesOn n (wrI (wrI q43 259 (Int32.toNatClampNeg (hi q43 226 49)) (hi q43 229 (Int32.toNatClampNeg (hi q43 226 11)))) 226 49 ((hi (wrI q43 259 (Int32.toNatClampNeg (hi q43 226 49)) (hi q43 229 (Int32.toNatClampNeg (hi q43 226 11)))) 226 49) + 1))).bind (fun q47 => W_X12_expression n 12 q47  l1 1)) else none) else none)))))) else ((F_X12_comesOut n q25.2 1).bind (fun q28 => (if ixOK (hi q28 226 11) 403 = true then (if ixOK (hi q28 226 49) 64 = true then ((F_X12_goesOn n (wrI (wrI q28 259 (Int32.toNatClampNeg (hi q28 226 49)) (hi q28 229 (Int32.toNatClampNeg (hi q28 226 11)))) 226 49 ((hi (wrI q28 259 (Int32.toNatClampNeg (hi q28 226 49)) (hi q28 229 (Int32.toNatClampNeg (hi q28 226 11)))) 226 49) + 1))).bind (fun q32 => W_X12_expression n 12 q32  l1 1)) else none) else none)))))))))) else (if ((hi q18.2 226 12) : Int32) ≤ (l1 : Int32) then ((F_X12_is n q18.2 8).bind (fun q194 => (if (q194.1 : Int32) = 0 then ((F_X12_is n q194.2 9).bind (fun q229 => (if (q229.1 : Int32) = 0 then ((F_X12_is n q229.2 10).bind (fun q264 => (if (q264.1 : Int32) = 0 then ((F_X12_is n q264.2 15).bind (fun q299 => (if (q299.1 : Int32) = 0 then (if (0 : Int32) = 0 then (if ((hi q299.2 226 12) : Int32) ≤ (l1 : Int32) then ((F_X12_comesOut n q299.2 0).bind (fun q328 => some q328)) else ((F_X12_fail n q299.2 1).bind (fun q330 => ((F_X12_comesOut n q330 0).bind (fun q332 => some q332))))) else ((F_X12_is n q299.2 10).bind (fun q303 => (if (q303.1 : Int32) = 0 then ((F_X12_is n q303.2 15).bind (fun q312 => (if (q312.1 : Int32) = 0 then ((F_X12_comesOut n q312.2 0).bind (fun q315 => (if ixOK (hi q315 226 11) 403 = true then (if ixOK (hi q315 226 49) 64 = true then ((F_X12_goesOn n (wrI (wrI q315 259 (Int32.toNatClampNeg (hi q315 226 49)) (hi q315 229 (Int32.toNatClampNeg (hi q315 226 11)))) 226 49 ((hi (wrI q315 259 (Int32.toNatClampNeg (hi q315 226 49)) (hi q315 229 (Int32.toNatClampNeg (hi q315 226 11)))) 226 49) + 1))).bind (fun q319 => W_X12_expression n 12 q319  l1 0)) else none) else none))) else ((F_X12_comesOut n q312.2 1).bind (fun q321 => (if ixOK (hi q321 226 11) 403 = true then (if ixOK (hi q321 226 49) 64 = true then ((F_X12_goesOn n (wrI (wrI q321 259 (Int32.toNatClampNeg (hi q321 226 49)) (hi q321 229 (Int32.toNatClampNeg (hi q321 226 11)))) 226 49 ((hi (wrI q321 259 (Int32.toNatClampNeg (hi q321 226 49)) (hi q321 229 (Int32.toNatClampNeg (hi q321 226 11)))) 226 49) + 1))).bind (fun q325 => W_X12_expression n 12 q325  l1 0)) else none) else none)))))) else ((F_X12_comesOut n q303.2 1).bind (fun q306 => (if ixOK (hi q306 226 11) 403 = true then (if ixOK (hi q306 226 49) 64 = true then ((F_X12_goesOn n (wrI (wrI q306 259 (Int32.toNatClampNeg (hi q306 226 49)) (hi q306 229 (Int32.toNatClampNeg (hi q306 226 11)))) 226 49 ((hi (wrI q306 259 (Int32.toNatClampNeg (hi q306 226 49)) (hi q306 229 (Int32.toNatClampNeg (hi q306 226 11)))) 226 49) + 1))).bind (fun q310 => W_X12_expression n 12 q310  l1 0)) else none) else none))))))) else (if (1 : Int32) = 0 then (if ((hi q299.2 226 12) : Int32) ≤ (l1 : Int32) then ((F_X12_comesOut n q299.2 0).bind (fun q360 => some q360)) else ((F_X12_fail n q299.2 1).bind (fun q362 => ((F_X12_comesOut n q362 0).bind (fun q364 => some q364))))) else ((F_X12_is n q299.2 10).bind (fun q335 => (if (q335.1 : Int32) = 0 then ((F_X12_is n q335.2 15).bind (fun q344 => (if (q344.1 : Int32) = 0 then ((F_X12_comesOut n q344.2 0).bind (fun q347 => (if ixOK (hi q347 226 11) 403 = true then (if ixOK (hi q347 226 49) 64 = true then ((F_X12_goesOn n (wrI (wrI q347 259 (Int32.toNatClampNeg (hi q347 226 49)) (hi q347 229 (Int32.toNatClampNeg (hi q347 226 11)))) 226 49 ((hi (wrI q347 259 (Int32.toNatClampNeg (hi q347 226 49)) (hi q347 229 (Int32.toNatClampNeg (hi q347 226 11)))) 226 49) + 1))).bind (fun q351 => W_X12_expression n 12 q351  l1 1)) else none) else none))) else ((F_X12_comesOut n q344.2 1).bind (fun q353 => (if ixOK (hi q353 226 11) 403 = true then (if ixOK (hi q353 226 49) 64 = true then ((F_X12_goesOn n (wrI (wrI q353 259 (Int32.toNatClampNeg (hi q353 226 49)) (hi q353 229 (Int32.toNatClampNeg (hi q353 226 11)))) 226 49 ((hi (wrI q353 259 (Int32.toNatClampNeg (hi q353 226 49)) (hi q353 229 (Int32.toNatClampNeg (hi q353 226 11)))) 226 49) + 1))).bind (fun q357 => W_X12_expression n 12 q357  l1 1)) else none) else none)))))) else ((F_X12_comesOut n q335.2 1).bind (fun q338 => (if ixOK (hi q338 226 11) 403 = true then (if ixOK (hi q338 226 49) 64 = true then ((F_X12_goesOn n (wrI (wrI q338 259 (Int32.toNatClampNeg (hi q338 226 49)) (hi q338 229 (Int32.toNatClampNeg (hi q338 226 11)))) 226 49 ((hi (wrI q338 259 (Int32.toNatClampNeg (hi q338 226 49)) (hi q338 229 (Int32.toNatClampNeg (hi q338 226 11)))) 226 49) + 1))).bind (fun q342 => W_X12_expression n 12 q342  l1 1)) else none) else none)))))))))) else (if (1 : Int32) = 0 then (if ((hi q264.2 226 12) : Int32) ≤ (l1 : Int32) then ((F_X12_comesOut n q264.2 0).bind (fun q293 => some q293)) else ((F_X12_fail n q264.2 1).bind (fun q295 => ((F_X12_comesOut n q295 0).bind (fun q297 => some q297))))) else ((F_X12_is n q264.2 10).bind (fun q268 => (if (q268.1 : Int32) = 0 then ((F_X12_is n q268.2 15).bind (fun q277 => (if (q277.1 : Int32) = 0 then ((F_X12_comesOut n q277.2 0).bind (fun q280 => (if ixOK (hi q280 226 11) 403 = true then (if ixOK (hi q280 226 49) 64 = true then ((F_X12_goesOn n (wrI (wrI q280 259 (Int32.toNatClampNeg (hi q280 226 49)) (hi q280 229 (Int32.toNatClampNeg (hi q280 226 11)))) 226 49 ((hi (wrI q280 259 (Int32.toNatClampNeg (hi q280 226 49)) (hi q280 229 (Int32.toNatClampNeg (hi q280 226 11)))) 226 49) + 1))).bind (fun q284 => W_X12_expression n 12 q284  l1 1)) else none) else none))) else ((F_X12_comesOut n q277.2 1).bind (fun q286 => (if ixOK (hi q286 226 11) 403 = true then (if ixOK (hi q286 226 49) 64 = true then ((F_X12_goesOn n (wrI (wrI q286 259 (Int32.toNatClampNeg (hi q286 226 49)) (hi q286 229 (Int32.toNatClampNeg (hi q286 226 11)))) 226 49 ((hi (wrI q286 259 (Int32.toNatClampNeg (hi q286 226 49)) (hi q286 229 (Int32.toNatClampNeg (hi q286 226 11)))) 226 49) + 1))).bind (fun q290 => W_X12_expression n 12 q290  l1 1)) else none) else none)))))) else ((F_X12_comesOut n q268.2 1).bind (fun q271 => (if ixOK (hi q271 226 11) 403 = true then (if ixOK (hi q271 226 49) 64 = true then ((F_X12_goesOn n (wrI (wrI q271 259 (Int32.toNatClampNeg (hi q271 226 49)) (hi q271 229 (Int32.toNatClampNeg (hi q271 226 11)))) 226 49 ((hi (wrI q271 259 (Int32.toNatClampNeg (hi q271 226 49)) (hi q271 229 (Int32.toNatClampNeg (hi q271 226 11)))) 226 49) + 1))).bind (fun q275 => W_X12_expression n 12 q275  l1 1)) else none) else none)))))))))) else (if (1 : Int32) = 0 then (if ((hi q229.2 226 12) : Int32) ≤ (l1 : Int32) then ((F_X12_comesOut n q229.2 0).bind (fun q258 => some q258)) else ((F_X12_fail n q229.2 1).bind (fun q260 => ((F_X12_comesOut n q260 0).bind (fun q262 => some q262))))) else ((F_X12_is n q229.2 10).bind (fun q233 => (if (q233.1 : Int32) = 0 then ((F_X12_is n q233.2 15).bind (fun q242 => (if (q242.1 : Int32) = 0 then ((F_X12_comesOut n q242.2 0).bind (fun q245 => (if ixOK (hi q245 226 11) 403 = true then (if ixOK (hi q245 226 49) 64 = true then ((F_X12_goesOn n (wrI (wrI q245 259 (Int32.toNatClampNeg (hi q245 226 49)) (hi q245 229 (Int32.toNatClampNeg (hi q245 226 11)))) 226 49 ((hi (wrI q245 259 (Int32.toNatClampNeg (hi q245 226 49)) (hi q245 229 (Int32.toNatClampNeg (hi q245 226 11)))) 226 49) + 1))).bind (fun q249 => W_X12_expression n 12 q249  l1 1)) else none) else none))) else ((F_X12_comesOut n q242.2 1).bind (fun q251 => (if ixOK (hi q251 226 11) 403 = true then (if ixOK (hi q251 226 49) 64 = true then ((F_X12_goesOn n (wrI (wrI q251 259 (Int32.toNatClampNeg (hi q251 226 49)) (hi q251 229 (Int32.toNatClampNeg (hi q251 226 11)))) 226 49 ((hi (wrI q251 259 (Int32.toNatClampNeg (hi q251 226 49)) (hi q251 229 (Int32.toNatClampNeg (hi q251 226 11)))) 226 49) + 1))).bind (fun q255 => W_X12_expression n 12 q255  l1 1)) else none) else none)))))) else ((F_X12_comesOut n q233.2 1).bind (fun q236 => (if ixOK (hi q236 226 11) 403 = true then (if ixOK (hi q236 226 49) 64 = true then ((F_X12_goesOn n (wrI (wrI q236 259 (Int32.toNatClampNeg (hi q236 226 49)) (hi q236 229 (Int32.toNatClampNeg (hi q236 226 11)))) 226 49 ((hi (wrI q236 259 (Int32.toNatClampNeg (hi q236 226 49)) (hi q236 229 (Int32.toNatClampNeg (hi q236 226 11)))) 226 49) + 1))).bind (fun q240 => W_X12_expression n 12 q240  l1 1)) else none) else none)))))))))) else (if (1 : Int32) = 0 then (if ((hi q194.2 226 12) : Int32) ≤ (l1 : Int32) then ((F_X12_comesOut n q194.2 0).bind (fun q223 => some q223)) else ((F_X12_fail n q194.2 1).bind (fun q225 => ((F_X12_comesOut n q225 0).bind (fun q227 => some q227))))) else ((F_X12_is n q194.2 10).bind (fun q198 => (if (q198.1 : Int32) = 0 then ((F_X12_is n q198.2 15).bind (fun q207 => (if (q207.1 : Int32) = 0 then ((F_X12_comesOut n q207.2 0).bind (fun q210 => (if ixOK (hi q210 226 11) 403 = true then (if ixOK (hi q210 226 49) 64 = true then ((F_X12_goesOn n (wrI (wrI q210 259 (Int32.toNatClampNeg (hi q210 226 49)) (hi q210 229 (Int32.toNatClampNeg (hi q210 226 11)))) 226 49 ((hi (wrI q210 259 (Int32.toNatClampNeg (hi q210 226 49)) (hi q210 229 (Int32.toNatClampNeg (hi q210 226 11)))) 226 49) + 1))).bind (fun q214 => W_X12_expression n 12 q214  l1 1)) else none) else none))) else ((F_X12_comesOut n q207.2 1).bind (fun q216 => (if ixOK (hi q216 226 11) 403 = true then (if ixOK (hi q216 226 49) 64 = true then ((F_X12_goesOn n (wrI (wrI q216 259 (Int32.toNatClampNeg (hi q216 226 49)) (hi q216 229 (Int32.toNatClampNeg (hi q216 226 11)))) 226 49 ((hi (wrI q216 259 (Int32.toNatClampNeg (hi q216 226 49)) (hi q216 229 (Int32.toNatClampNeg (hi q216 226 11)))) 226 49) + 1))).bind (fun q220 => W_X12_expression n 12 q220  l1 1)) else none) else none)))))) else ((F_X12_comesOut n q198.2 1).bind (fun q201 => (if ixOK (hi q201 226 11) 403 = true then (if ixOK (hi q201 226 49) 64 = true then ((F_X12_goesOn n (wrI (wrI q201 259 (Int32.toNatClampNeg (hi q201 226 49)) (hi q201 229 (Int32.toNatClampNeg (hi q201 226 11)))) 226 49 ((hi (wrI q201 259 (Int32.toNatClampNeg (hi q201 226 49)) (hi q201 229 (Int32.toNatClampNeg (hi q201 226 11)))) 226 49) + 1))).bind (fun q205 => W_X12_expression n 12 q205  l1 1)) else none) else none)))))))))) else ((F_X12_comesOut n q18.2 0).bind (fun q366 => ((F_X12_goesOn n (wrI (wrI q366 226 49 ((hi q366 226 49) - 1)) 226 12 ((hi (wrI q366 226 49 ((hi q366 226 49) - 1)) 226 12) - 1))).bind (fun q368 => W_X12_expression n 96 q368  l1 l2)))))))) else none)))
set_option maxRecDepth 100000 in
set_option maxHeartbeats 4000000 in
theorem sw_X12_expression (d : Nat)  (n : Nat) : (∀ (l1 : Int32) (l2 : Int32) (h : Hp), ∀ (h' : Hp), W_X12_expression n 12 h  l1 l2 = some h' → G h → V mX12_expression (d + 3) 12 [some (.ref 226), some (.int l1), some (.int l2)] [] h (fun r1 h1 => r1 = none ∧ h1 = h' ∧ G h')) ∧ (∀ (l1 : Int32) (l2 : Int32) (h : Hp), ∀ (h' : Hp), W_X12_expression n 23 h  l1 l2 = some h' → G h → V mX12_expression (d + 3) 23 [some (.ref 226), some (.int l1), some (.int l2)] [] h (fun r1 h1 => r1 = none ∧ h1 = h' ∧ G h')) ∧ (∀ (l1 : Int32) (l2 : Int32) (h : Hp), ∀ (h' : Hp), W_X12_expression n 96 h  l1 l2 = some h' → G h → V mX12_expression (d + 3) 96 [some (.ref 226), some (.int l1), some (.int l2)] [] h (fun r1 h1 => r1 = none ∧ h1 = h' ∧ G h')) := by
  induction n with
  | zero => exact ⟨by intros; contradiction, by intros; contradiction, by intros; contradiction⟩
  | succ n ih =>
    obtain ⟨s_X12_expression_IH_12, s_X12_expression_IH_23, s_X12_expression_IH_96⟩ := ih
    refine ⟨?_, ?_, ?_⟩
    · intro l1 l2 h h' hF hG
      unfold W_X12_expression at hF
      rw [if_pos rfl] at hF
      refine v_iload_n (i := 2) dX12_expression_12 rfl rfl ?_
      refine v_if_eq 272 dX12_expression_13 (by decide) (fun c1 => ?_) (fun c1 => ?_)
      · rw [if_pos c1] at hF
        refine v_return rfl dX12_expression_272 ?_
        obtain rfl := Option.some.inj hF
        exact ⟨rfl, rfl, hG⟩
      · rw [if_neg c1] at hF
        refine v_aload_n (i := 0) dX12_expression_16 rfl rfl ?_
        refine g_X12_215 rfl sh_226 (by exact ltG hG (by decide)) dX12_expression_17 ?_
        refine v_if_ne 272 dX12_expression_20 (by decide) (fun c2 => ?_) (fun c2 => ?_)
        · rw [if_neg c2] at hF
          refine v_return rfl dX12_expression_272 ?_
          obtain rfl := Option.some.inj hF
          exact ⟨rfl, rfl, hG⟩
        · rw [if_pos c2] at hF
          refine V.weak (la2 := [some (.ref 226), some (.int l1), some (.int l2)]) (by simp [wk]) ?_
          exact (s_X12_expression_IH_23) _ _ _ _ hF hG
    · intro l1 l2 h h' hF hG
      unfold W_X12_expression at hF
      rw [if_neg (by decide)] at hF
      rw [if_pos rfl] at hF
      refine v_aload_n (i := 0) dX12_expression_23 rfl rfl ?_
      refine v_bipush (v := 6) dX12_expression_24 (by decide) ?_
      obtain ⟨q3, q3_e, hF⟩ := Option.bind_eq_some_iff.mp hF
      refine c_X12_233 rfl sh_226 (by exact ltG hG (by decide)) (Nat.le_of_ble_eq_true rfl) dX12_expression_26 (s_X12_is _ q3_e hG) (fun r1 h1 hq => ?_)
      obtain ⟨rfl, hq, hG⟩ := hq
      replace hq := hq.symm
      subst hq
      show V _ _ _ _ (_ :: _) _ _
      refine v_if_eq 84 dX12_expression_29 (by decide) (fun c5 => ?_) (fun c5 => ?_)
      · rw [if_pos c5] at hF
        refine v_aload_n (i := 0) dX12_expression_84 rfl rfl ?_
        obtain ⟨q6, q6_e, hF⟩ := Option.bind_eq_some_iff.mp hF
        refine c_X12_315 rfl sh_226 (by exact ltG hG (by decide)) (Nat.le_of_ble_eq_true rfl) dX12_expression_85 (s_X12_unit _ q6_e hG) (fun r1 h1 hq => ?_)
        obtain ⟨rfl, hq, hG⟩ := hq
        replace hq := hq.symm
        subst hq
        simp only [Option.toList, List.nil_append]
        refine v_aload_n (i := 0) dX12_expression_88 rfl rfl ?_
        refine g_X12_215 rfl sh_226 (by exact ltG hG (by decide)) dX12_expression_89 ?_
        refine v_if_le 96 dX12_expression_92 (by decide) (fun c8 => ?_) (fun c8 => ?_)
        · rw [if_pos c8] at hF
          refine V.weak (la2 := [some (.ref 226), some (.int l1), some (.int l2)]) (by simp [wk]) ?_
          exact (s_X12_expression_IH_96) _ _ _ _ hF hG
        · rw [if_neg c8] at hF
          refine v_return rfl dX12_expression_95 ?_
          obtain rfl := Option.some.inj hF
          exact ⟨rfl, rfl, hG⟩
      · rw [if_neg c5] at hF
        refine v_aload_n (i := 0) dX12_expression_32 rfl rfl ?_
        refine g_X12_242 rfl sh_226 (by exact ltG hG (by decide)) dX12_expression_33 ?_
        refine v_bipush (v := 6) dX12_expression_36 (by decide) ?_
        refine v_icmp_ne 46 dX12_expression_38 (by decide) (fun c9 => ?_) (fun c9 => ?_)
        · rw [if_neg c9] at hF
          refine v_aload_n (i := 0) dX12_expression_46 rfl rfl ?_
          refine v_dup dX12_expression_47 rfl ?_
          refine g_X12_242 rfl sh_226 (by exact ltG hG (by decide)) dX12_expression_48 ?_
          refine v_iconst (v := 1) dX12_expression_51 (by decide) ?_
          refine v_iadd dX12_expression_52 ?_
          refine p_X12_242 rfl sh_226 (by exact ltG hG (by decide)) dX12_expression_53 ?_
          refine v_aload_n (i := 0) dX12_expression_56 rfl rfl ?_
          obtain ⟨q10, q10_e, hF⟩ := Option.bind_eq_some_iff.mp hF
          refine c_X12_236 rfl sh_226 (by exact ltG hG (by decide)) (Nat.le_of_ble_eq_true rfl) dX12_expression_57 (s_X12_goesOn _ q10_e hG) (fun r1 h1 hq => ?_)
          obtain ⟨rfl, hq, hG⟩ := hq
          replace hq := hq.symm
          subst hq
          simp only [Option.toList, List.nil_append]
          refine v_aload_n (i := 0) dX12_expression_60 rfl rfl ?_
          refine g_X12_116 (q := 259) rfl sh_226 (by exact ltG hG (by decide)) (by exact rG hG r0_226_48) dX12_expression_61 ?_
          refine v_aload_n (i := 0) dX12_expression_64 rfl rfl ?_
          refine g_X12_309 rfl sh_226 (by exact ltG hG (by decide)) dX12_expression_65 ?_
          refine v_bipush (v := 6) dX12_expression_68 (by decide) ?_
          obtain ⟨k12, hF⟩ := ck_some hF
          refine v_iastore sh_259 (by exact ltG hG (by decide)) (ixO k12) dX12_expression_70 ?_
          refine v_aload_n (i := 0) dX12_expression_71 rfl rfl ?_
          refine v_dup dX12_expression_72 rfl ?_
          refine g_X12_309 rfl sh_226 (by exact ltG hG (by decide)) dX12_expression_73 ?_
          refine v_iconst (v := 1) dX12_expression_76 (by decide) ?_
          refine v_iadd dX12_expression_77 ?_
          refine p_X12_309 rfl sh_226 (by exact ltG hG (by decide)) dX12_expression_78 ?_
          refine v_goto 23 dX12_expression_81 (by decide) ?_
          refine V.weak (la2 := [some (.ref 226), some (.int l1), some (.int l2)]) (by simp [wk]) ?_
          exact (s_X12_expression_IH_23) _ _ _ _ hF hG
        · rw [if_pos c9] at hF
          refine v_aload_n (i := 0) dX12_expression_41 rfl rfl ?_
          refine v_iconst (v := 2) dX12_expression_42 (by decide) ?_
          obtain ⟨q13, q13_e, hF⟩ := Option.bind_eq_some_iff.mp hF
          refine c_X12_230 rfl sh_226 (by exact ltG hG (by decide)) (Nat.le_of_ble_eq_true rfl) dX12_expression_43 (s_X12_fail _ q13_e hG) (fun r1 h1 hq => ?_)
          obtain ⟨rfl, hq, hG⟩ := hq
          replace hq := hq.symm
          subst hq
          simp only [Option.toList, List.nil_append]
          refine v_aload_n (i := 0) dX12_expression_46 rfl rfl ?_
          refine v_dup dX12_expression_47 rfl ?_
          refine g_X12_242 rfl sh_226 (by exact ltG hG (by decide)) dX12_expression_48 ?_
          refine v_iconst (v := 1) dX12_expression_51 (by decide) ?_
          refine v_iadd dX12_expression_52 ?_
          refine p_X12_242 rfl sh_226 (by exact ltG hG (by decide)) dX12_expression_53 ?_
          refine v_aload_n (i := 0) dX12_expression_56 rfl rfl ?_
          obtain ⟨q15, q15_e, hF⟩ := Option.bind_eq_some_iff.mp hF
          refine c_X12_236 rfl sh_226 (by exact ltG hG (by decide)) (Nat.le_of_ble_eq_true rfl) dX12_expression_57 (s_X12_goesOn _ q15_e hG) (fun r1 h1 hq => ?_)
          obtain ⟨rfl, hq, hG⟩ := hq
          replace hq := hq.symm
          subst hq
          simp only [Option.toList, List.nil_append]
          refine v_aload_n (i := 0) dX12_expression_60 rfl rfl ?_
          refine g_X12_116 (q := 259) rfl sh_226 (by exact ltG hG (by decide)) (by exact rG hG r0_226_48) dX12_expression_61 ?_
          refine v_aload_n (i := 0) dX12_expression_64 rfl rfl ?_
          refine g_X12_309 rfl sh_226 (by exact ltG hG (by decide)) dX12_expression_65 ?_
          refine v_bipush (v := 6) dX12_expression_68 (by decide) ?_
          obtain ⟨k17, hF⟩ := ck_some hF
          refine v_iastore sh_259 (by exact ltG hG (by decide)) (ixO k17) dX12_expression_70 ?_
          refine v_aload_n (i := 0) dX12_expression_71 rfl rfl ?_
          refine v_dup dX12_expression_72 rfl ?_
          refine g_X12_309 rfl sh_226 (by exact ltG hG (by decide)) dX12_expression_73 ?_
          refine v_iconst (v := 1) dX12_expression_76 (by decide) ?_
          refine v_iadd dX12_expression_77 ?_
          refine p_X12_309 rfl sh_226 (by exact ltG hG (by decide)) dX12_expression_78 ?_
          refine v_goto 23 dX12_expression_81 (by decide) ?_
          refine V.weak (la2 := [some (.ref 226), some (.int l1), some (.int l2)]) (by simp [wk]) ?_
          exact (s_X12_expression_IH_23) _ _ _ _ hF hG
    · intro l1 l2 h h' hF hG
      unfold W_X12_expression at hF
      rw [if_neg (by decide)] at hF
      rw [if_neg (by decide)] at hF
      rw [if_pos rfl] at hF
      refine v_aload_n (i := 0) dX12_expression_96 rfl rfl ?_
      refine v_bipush (v := 7) dX12_expression_97 (by decide) ?_
      obtain ⟨q18, q18_e, hF⟩ := Option.bind_eq_some_iff.mp hF
      refine c_X12_233 rfl sh_226 (by exact ltG hG (by decide)) (Nat.le_of_ble_eq_true rfl) dX12_expression_99 (s_X12_is _ q18_e hG) (fun r1 h1 hq => ?_)
      obtain ⟨rfl, hq, hG⟩ := hq
      replace hq := hq.symm
      subst hq
      show V _ _ _ _ (_ :: _) _ _
      refine v_if_eq 145 dX12_expression_102 (by decide) (fun c20 => ?_) (fun c20 => ?_)
      · rw [if_pos c20] at hF
        refine v_aload_n (i := 0) dX12_expression_145 rfl rfl ?_
        refine v_bipush (v := 8) dX12_expression_146 (by decide) ?_
        obtain ⟨q21, q21_e, hF⟩ := Option.bind_eq_some_iff.mp hF
        refine c_X12_233 rfl sh_226 (by exact ltG hG (by decide)) (Nat.le_of_ble_eq_true rfl) dX12_expression_148 (s_X12_is _ q21_e hG) (fun r1 h1 hq => ?_)
        obtain ⟨rfl, hq, hG⟩ := hq
        replace hq := hq.symm
        subst hq
        show V _ _ _ _ (_ :: _) _ _
        refine v_if_ne 181 dX12_expression_151 (by decide) (fun c23 => ?_) (fun c23 => ?_)
        · rw [if_neg c23] at hF
          refine v_iconst (v := 1) dX12_expression_181 (by decide) ?_
          refine v_goto 186 dX12_expression_182 (by decide) ?_
          refine v_istore_n (i := 2) dX12_expression_186 rfl (by decide) (nlT rfl) ?_
          simp only [List.set_cons_zero, List.set_cons_succ]
          refine v_iload_n (i := 2) dX12_expression_187 rfl rfl ?_
          refine v_if_ne 210 dX12_expression_188 (by decide) (fun c24 => ?_) (fun c24 => ?_)
          · rw [if_neg c24] at hF
            refine v_aload_n (i := 0) dX12_expression_210 rfl rfl ?_
            refine v_aload_n (i := 0) dX12_expression_211 rfl rfl ?_
            refine v_bipush (v := 10) dX12_expression_212 (by decide) ?_
            obtain ⟨q25, q25_e, hF⟩ := Option.bind_eq_some_iff.mp hF
            refine c_X12_233 rfl sh_226 (by exact ltG hG (by decide)) (Nat.le_of_ble_eq_true rfl) dX12_expression_214 (s_X12_is _ q25_e hG) (fun r1 h1 hq => ?_)
            obtain ⟨rfl, hq, hG⟩ := hq
            replace hq := hq.symm
            subst hq
            show V _ _ _ _ (_ :: _) _ _
            refine v_if_ne 229 dX12_expression_217 (by decide) (fun c27 => ?_) (fun c27 => ?_)
            · rw [if_neg c27] at hF
              refine v_iconst (v := 1) dX12_expression_229 (by decide) ?_
              refine v_goto 234 dX12_expression_230 (by decide) ?_
              obtain ⟨q28, q28_e, hF⟩ := Option.bind_eq_some_iff.mp hF
              refine c_X12_318 rfl sh_226 (by exact ltG hG (by decide)) (Nat.le_of_ble_eq_true rfl) dX12_expression_234 (s_X12_comesOut _ q28_e hG) (fun r1 h1 hq => ?_)
              obtain ⟨rfl, hq, hG⟩ := hq
              replace hq := hq.symm
              subst hq
              simp only [Option.toList, List.nil_append]
              refine v_aload_n (i := 0) dX12_expression_237 rfl rfl ?_
              refine g_X12_116 (q := 259) rfl sh_226 (by exact ltG hG (by decide)) (by exact rG hG r0_226_48) dX12_expression_238 ?_
              refine v_aload_n (i := 0) dX12_expression_241 rfl rfl ?_
              refine g_X12_309 rfl sh_226 (by exact ltG hG (by decide)) dX12_expression_242 ?_
              refine v_aload_n (i := 0) dX12_expression_245 rfl rfl ?_
              refine g_X12_20 (q := 229) rfl sh_226 (by exact ltG hG (by decide)) (by exact rG hG r0_226_5) dX12_expression_246 ?_
              refine v_aload_n (i := 0) dX12_expression_249 rfl rfl ?_
              refine g_X12_218 rfl sh_226 (by exact ltG hG (by decide)) dX12_expression_250 ?_
              obtain ⟨k30, hF⟩ := ck_some hF
              refine v_iaload sh_229 (by exact ltG hG (by decide)) (ixO k30) dX12_expression_253 ?_
              obtain ⟨k31, hF⟩ := ck_some hF
              refine v_iastore sh_259 (by exact ltG hG (by decide)) (ixO k31) dX12_expression_254 ?_
              refine v_aload_n (i := 0) dX12_expression_255 rfl rfl ?_
              refine v_dup dX12_expression_256 rfl ?_
              refine g_X12_309 rfl sh_226 (by exact ltG hG (by decide)) dX12_expression_257 ?_
              refine v_iconst (v := 1) dX12_expression_260 (by decide) ?_
              refine v_iadd dX12_expression_261 ?_
              refine p_X12_309 rfl sh_226 (by exact ltG hG (by decide)) dX12_expression_262 ?_
              refine v_aload_n (i := 0) dX12_expression_265 rfl rfl ?_
              obtain ⟨q32, q32_e, hF⟩ := Option.bind_eq_some_iff.mp hF
              refine c_X12_236 rfl sh_226 (by exact ltG hG (by decide)) (Nat.le_of_ble_eq_true rfl) dX12_expression_266 (s_X12_goesOn _ q32_e hG) (fun r1 h1 hq => ?_)
              obtain ⟨rfl, hq, hG⟩ := hq
              replace hq := hq.symm
              subst hq
              simp only [Option.toList, List.nil_append]
              refine v_goto 12 dX12_expression_269 (by decide) ?_
              refine V.weak (la2 := [some (.ref 226), some (.int l1), some (.int 1)]) (by simp [wk]) ?_
              exact (s_X12_expression_IH_12) _ _ _ _ hF hG
            · rw [if_pos c27] at hF
              refine v_aload_n (i := 0) dX12_expression_220 rfl rfl ?_
              refine v_bipush (v := 15) dX12_expression_221 (by decide) ?_
              obtain ⟨q34, q34_e, hF⟩ := Option.bind_eq_some_iff.mp hF
              refine c_X12_233 rfl sh_226 (by exact ltG hG (by decide)) (Nat.le_of_ble_eq_true rfl) dX12_expression_223 (s_X12_is _ q34_e hG) (fun r1 h1 hq => ?_)
              obtain ⟨rfl, hq, hG⟩ := hq
              replace hq := hq.symm
              subst hq
              show V _ _ _ _ (_ :: _) _ _
              refine v_if_eq 233 dX12_expression_226 (by decide) (fun c36 => ?_) (fun c36 => ?_)
              · rw [if_pos c36] at hF
                refine v_iconst (v := 0) dX12_expression_233 (by decide) ?_
                obtain ⟨q37, q37_e, hF⟩ := Option.bind_eq_some_iff.mp hF
                refine c_X12_318 rfl sh_226 (by exact ltG hG (by decide)) (Nat.le_of_ble_eq_true rfl) dX12_expression_234 (s_X12_comesOut _ q37_e hG) (fun r1 h1 hq => ?_)
                obtain ⟨rfl, hq, hG⟩ := hq
                replace hq := hq.symm
                subst hq
                simp only [Option.toList, List.nil_append]
                refine v_aload_n (i := 0) dX12_expression_237 rfl rfl ?_
                refine g_X12_116 (q := 259) rfl sh_226 (by exact ltG hG (by decide)) (by exact rG hG r0_226_48) dX12_expression_238 ?_
                refine v_aload_n (i := 0) dX12_expression_241 rfl rfl ?_
                refine g_X12_309 rfl sh_226 (by exact ltG hG (by decide)) dX12_expression_242 ?_
                refine v_aload_n (i := 0) dX12_expression_245 rfl rfl ?_
                refine g_X12_20 (q := 229) rfl sh_226 (by exact ltG hG (by decide)) (by exact rG hG r0_226_5) dX12_expression_246 ?_
                refine v_aload_n (i := 0) dX12_expression_249 rfl rfl ?_
                refine g_X12_218 rfl sh_226 (by exact ltG hG (by decide)) dX12_expression_250 ?_
                obtain ⟨k39, hF⟩ := ck_some hF
                refine v_iaload sh_229 (by exact ltG hG (by decide)) (ixO k39) dX12_expression_253 ?_
                obtain ⟨k40, hF⟩ := ck_some hF
                refine v_iastore sh_259 (by exact ltG hG (by decide)) (ixO k40) dX12_expression_254 ?_
                refine v_aload_n (i := 0) dX12_expression_255 rfl rfl ?_
                refine v_dup dX12_expression_256 rfl ?_
                refine g_X12_309 rfl sh_226 (by exact ltG hG (by decide)) dX12_expression_257 ?_
                refine v_iconst (v := 1) dX12_expression_260 (by decide) ?_
                refine v_iadd dX12_expression_261 ?_
                refine p_X12_309 rfl sh_226 (by exact ltG hG (by decide)) dX12_expression_262 ?_
                refine v_aload_n (i := 0) dX12_expression_265 rfl rfl ?_
                obtain ⟨q41, q41_e, hF⟩ := Option.bind_eq_some_iff.mp hF
                refine c_X12_236 rfl sh_226 (by exact ltG hG (by decide)) (Nat.le_of_ble_eq_true rfl) dX12_expression_266 (s_X12_goesOn _ q41_e hG) (fun r1 h1 hq => ?_)
                obtain ⟨rfl, hq, hG⟩ := hq
                replace hq := hq.symm
                subst hq
                simp only [Option.toList, List.nil_append]
                refine v_goto 12 dX12_expression_269 (by decide) ?_
                refine V.weak (la2 := [some (.ref 226), some (.int l1), some (.int 1)]) (by simp [wk]) ?_
                exact (s_X12_expression_IH_12) _ _ _ _ hF hG
              · rw [if_neg c36] at hF
                refine v_iconst (v := 1) dX12_expression_229 (by decide) ?_
                refine v_goto 234 dX12_expression_230 (by decide) ?_
                obtain ⟨q43, q43_e, hF⟩ := Option.bind_eq_some_iff.mp hF
                refine c_X12_318 rfl sh_226 (by exact ltG hG (by decide)) (Nat.le_of_ble_eq_true rfl) dX12_expression_234 (s_X12_comesOut _ q43_e hG) (fun r1 h1 hq => ?_)
                obtain ⟨rfl, hq, hG⟩ := hq
                replace hq := hq.symm
                subst hq
                simp only [Option.toList, List.nil_append]
                refine v_aload_n (i := 0) dX12_expression_237 rfl rfl ?_
                refine g_X12_116 (q := 259) rfl sh_226 (by exact ltG hG (by decide)) (by exact rG hG r0_226_48) dX12_expression_238 ?_
                refine v_aload_n (i := 0) dX12_expression_241 rfl rfl ?_
                refine g_X12_309 rfl sh_226 (by exact ltG hG (by decide)) dX12_expression_242 ?_
                refine v_aload_n (i := 0) dX12_expression_245 rfl rfl ?_
                refine g_X12_20 (q := 229) rfl sh_226 (by exact ltG hG (by decide)) (by exact rG hG r0_226_5) dX12_expression_246 ?_
                refine v_aload_n (i := 0) dX12_expression_249 rfl rfl ?_
                refine g_X12_218 rfl sh_226 (by exact ltG hG (by decide)) dX12_expression_250 ?_
                obtain ⟨k45, hF⟩ := ck_some hF
                refine v_iaload sh_229 (by exact ltG hG (by decide)) (ixO k45) dX12_expression_253 ?_
                obtain ⟨k46, hF⟩ := ck_some hF
                refine v_iastore sh_259 (by exact ltG hG (by decide)) (ixO k46) dX12_expression_254 ?_
                refine v_aload_n (i := 0) dX12_expression_255 rfl rfl ?_
                refine v_dup dX12_expression_256 rfl ?_
                refine g_X12_309 rfl sh_226 (by exact ltG hG (by decide)) dX12_expression_257 ?_
                refine v_iconst (v := 1) dX12_expression_260 (by decide) ?_
                refine v_iadd dX12_expression_261 ?_
                refine p_X12_309 rfl sh_226 (by exact ltG hG (by decide)) dX12_expression_262 ?_
                refine v_aload_n (i := 0) dX12_expression_265 rfl rfl ?_
                obtain ⟨q47, q47_e, hF⟩ := Option.bind_eq_some_iff.mp hF
                refine c_X12_236 rfl sh_226 (by exact ltG hG (by decide)) (Nat.le_of_ble_eq_true rfl) dX12_expression_266 (s_X12_goesOn _ q47_e hG) (fun r1 h1 hq => ?_)
                obtain ⟨rfl, hq, hG⟩ := hq
                replace hq := hq.symm
                subst hq
                simp only [Option.toList, List.nil_append]
                refine v_goto 12 dX12_expression_269 (by decide) ?_
                refine V.weak (la2 := [some (.ref 226), some (.int l1), some (.int 1)]) (by simp [wk]) ?_
                exact (s_X12_expression_IH_12) _ _ _ _ hF hG
          · rw [if_pos c24] at hF
            refine v_aload_n (i := 0) dX12_expression_191 rfl rfl ?_
            refine g_X12_242 rfl sh_226 (by exact ltG hG (by decide)) dX12_expression_192 ?_
            refine v_iload_n (i := 1) dX12_expression_195 rfl rfl ?_
            refine v_icmp_le 204 dX12_expression_196 (by decide) (fun c49 => ?_) (fun c49 => ?_)
            · rw [if_pos c49] at hF
              refine v_aload_n (i := 0) dX12_expression_204 rfl rfl ?_
              refine v_iconst (v := 0) dX12_expression_205 (by decide) ?_
              obtain ⟨q50, q50_e, hF⟩ := Option.bind_eq_some_iff.mp hF
              refine c_X12_318 rfl sh_226 (by exact ltG hG (by decide)) (Nat.le_of_ble_eq_true rfl) dX12_expression_206 (s_X12_comesOut _ q50_e hG) (fun r1 h1 hq => ?_)
              obtain ⟨rfl, hq, hG⟩ := hq
              replace hq := hq.symm
              subst hq
              simp only [Option.toList, List.nil_append]
              refine v_return rfl dX12_expression_209 ?_
              obtain rfl := Option.some.inj hF
              exact ⟨rfl, rfl, hG⟩
            · rw [if_neg c49] at hF
              refine v_aload_n (i := 0) dX12_expression_199 rfl rfl ?_
              refine v_iconst (v := 1) dX12_expression_200 (by decide) ?_
              obtain ⟨q52, q52_e, hF⟩ := Option.bind_eq_some_iff.mp hF
              refine c_X12_230 rfl sh_226 (by exact ltG hG (by decide)) (Nat.le_of_ble_eq_true rfl) dX12_expression_201 (s_X12_fail _ q52_e hG) (fun r1 h1 hq => ?_)
              obtain ⟨rfl, hq, hG⟩ := hq
              replace hq := hq.symm
              subst hq
              simp only [Option.toList, List.nil_append]
              refine v_aload_n (i := 0) dX12_expression_204 rfl rfl ?_
              refine v_iconst (v := 0) dX12_expression_205 (by decide) ?_
              obtain ⟨q54, q54_e, hF⟩ := Option.bind_eq_some_iff.mp hF
              refine c_X12_318 rfl sh_226 (by exact ltG hG (by decide)) (Nat.le_of_ble_eq_true rfl) dX12_expression_206 (s_X12_comesOut _ q54_e hG) (fun r1 h1 hq => ?_)
              obtain ⟨rfl, hq, hG⟩ := hq
              replace hq := hq.symm
              subst hq
              simp only [Option.toList, List.nil_append]
              refine v_return rfl dX12_expression_209 ?_
              obtain rfl := Option.some.inj hF
              exact ⟨rfl, rfl, hG⟩
        · rw [if_pos c23] at hF
          refine v_aload_n (i := 0) dX12_expression_154 rfl rfl ?_
          refine v_bipush (v := 9) dX12_expression_155 (by decide) ?_
          obtain ⟨q56, q56_e, hF⟩ := Option.bind_eq_some_iff.mp hF
          refine c_X12_233 rfl sh_226 (by exact ltG hG (by decide)) (Nat.le_of_ble_eq_true rfl) dX12_expression_157 (s_X12_is _ q56_e hG) (fun r1 h1 hq => ?_)
          obtain ⟨rfl, hq, hG⟩ := hq
          replace hq := hq.symm
          subst hq
          show V _ _ _ _ (_ :: _) _ _
          refine v_if_ne 181 dX12_expression_160 (by decide) (fun c58 => ?_) (fun c58 => ?_)
          · rw [if_neg c58] at hF
            refine v_iconst (v := 1) dX12_expression_181 (by decide) ?_
            refine v_goto 186 dX12_expression_182 (by decide) ?_
            refine v_istore_n (i := 2) dX12_expression_186 rfl (by decide) (nlT rfl) ?_
            simp only [List.set_cons_zero, List.set_cons_succ]
            refine v_iload_n (i := 2) dX12_expression_187 rfl rfl ?_
            refine v_if_ne 210 dX12_expression_188 (by decide) (fun c59 => ?_) (fun c59 => ?_)
            · rw [if_neg c59] at hF
              refine v_aload_n (i := 0) dX12_expression_210 rfl rfl ?_
              refine v_aload_n (i := 0) dX12_expression_211 rfl rfl ?_
              refine v_bipush (v := 10) dX12_expression_212 (by decide) ?_
              obtain ⟨q60, q60_e, hF⟩ := Option.bind_eq_some_iff.mp hF
              refine c_X12_233 rfl sh_226 (by exact ltG hG (by decide)) (Nat.le_of_ble_eq_true rfl) dX12_expression_214 (s_X12_is _ q60_e hG) (fun r1 h1 hq => ?_)
              obtain ⟨rfl, hq, hG⟩ := hq
              replace hq := hq.symm
              subst hq
              show V _ _ _ _ (_ :: _) _ _
              refine v_if_ne 229 dX12_expression_217 (by decide) (fun c62 => ?_) (fun c62 => ?_)
              · rw [if_neg c62] at hF
                refine v_iconst (v := 1) dX12_expression_229 (by decide) ?_
                refine v_goto 234 dX12_expression_230 (by decide) ?_
                obtain ⟨q63, q63_e, hF⟩ := Option.bind_eq_some_iff.mp hF
                refine c_X12_318 rfl sh_226 (by exact ltG hG (by decide)) (Nat.le_of_ble_eq_true rfl) dX12_expression_234 (s_X12_comesOut _ q63_e hG) (fun r1 h1 hq => ?_)
                obtain ⟨rfl, hq, hG⟩ := hq
                replace hq := hq.symm
                subst hq
                simp only [Option.toList, List.nil_append]
                refine v_aload_n (i := 0) dX12_expression_237 rfl rfl ?_
                refine g_X12_116 (q := 259) rfl sh_226 (by exact ltG hG (by decide)) (by exact rG hG r0_226_48) dX12_expression_238 ?_
                refine v_aload_n (i := 0) dX12_expression_241 rfl rfl ?_
                refine g_X12_309 rfl sh_226 (by exact ltG hG (by decide)) dX12_expression_242 ?_
                refine v_aload_n (i := 0) dX12_expression_245 rfl rfl ?_
                refine g_X12_20 (q := 229) rfl sh_226 (by exact ltG hG (by decide)) (by exact rG hG r0_226_5) dX12_expression_246 ?_
                refine v_aload_n (i := 0) dX12_expression_249 rfl rfl ?_
                refine g_X12_218 rfl sh_226 (by exact ltG hG (by decide)) dX12_expression_250 ?_
                obtain ⟨k65, hF⟩ := ck_some hF
                refine v_iaload sh_229 (by exact ltG hG (by decide)) (ixO k65) dX12_expression_253 ?_
                obtain ⟨k66, hF⟩ := ck_some hF
                refine v_iastore sh_259 (by exact ltG hG (by decide)) (ixO k66) dX12_expression_254 ?_
                refine v_aload_n (i := 0) dX12_expression_255 rfl rfl ?_
                refine v_dup dX12_expression_256 rfl ?_
                refine g_X12_309 rfl sh_226 (by exact ltG hG (by decide)) dX12_expression_257 ?_
                refine v_iconst (v := 1) dX12_expression_260 (by decide) ?_
                refine v_iadd dX12_expression_261 ?_
                refine p_X12_309 rfl sh_226 (by exact ltG hG (by decide)) dX12_expression_262 ?_
                refine v_aload_n (i := 0) dX12_expression_265 rfl rfl ?_
                obtain ⟨q67, q67_e, hF⟩ := Option.bind_eq_some_iff.mp hF
                refine c_X12_236 rfl sh_226 (by exact ltG hG (by decide)) (Nat.le_of_ble_eq_true rfl) dX12_expression_266 (s_X12_goesOn _ q67_e hG) (fun r1 h1 hq => ?_)
                obtain ⟨rfl, hq, hG⟩ := hq
                replace hq := hq.symm
                subst hq
                simp only [Option.toList, List.nil_append]
                refine v_goto 12 dX12_expression_269 (by decide) ?_
                refine V.weak (la2 := [some (.ref 226), some (.int l1), some (.int 1)]) (by simp [wk]) ?_
                exact (s_X12_expression_IH_12) _ _ _ _ hF hG
              · rw [if_pos c62] at hF
                refine v_aload_n (i := 0) dX12_expression_220 rfl rfl ?_
                refine v_bipush (v := 15) dX12_expression_221 (by decide) ?_
                obtain ⟨q69, q69_e, hF⟩ := Option.bind_eq_some_iff.mp hF
                refine c_X12_233 rfl sh_226 (by exact ltG hG (by decide)) (Nat.le_of_ble_eq_true rfl) dX12_expression_223 (s_X12_is _ q69_e hG) (fun r1 h1 hq => ?_)
                obtain ⟨rfl, hq, hG⟩ := hq
                replace hq := hq.symm
                subst hq
                show V _ _ _ _ (_ :: _) _ _
                refine v_if_eq 233 dX12_expression_226 (by decide) (fun c71 => ?_) (fun c71 => ?_)
                · rw [if_pos c71] at hF
                  refine v_iconst (v := 0) dX12_expression_233 (by decide) ?_
                  obtain ⟨q72, q72_e, hF⟩ := Option.bind_eq_some_iff.mp hF
                  refine c_X12_318 rfl sh_226 (by exact ltG hG (by decide)) (Nat.le_of_ble_eq_true rfl) dX12_expression_234 (s_X12_comesOut _ q72_e hG) (fun r1 h1 hq => ?_)
                  obtain ⟨rfl, hq, hG⟩ := hq
                  replace hq := hq.symm
                  subst hq
                  simp only [Option.toList, List.nil_append]
                  refine v_aload_n (i := 0) dX12_expression_237 rfl rfl ?_
                  refine g_X12_116 (q := 259) rfl sh_226 (by exact ltG hG (by decide)) (by exact rG hG r0_226_48) dX12_expression_238 ?_
                  refine v_aload_n (i := 0) dX12_expression_241 rfl rfl ?_
                  refine g_X12_309 rfl sh_226 (by exact ltG hG (by decide)) dX12_expression_242 ?_
                  refine v_aload_n (i := 0) dX12_expression_245 rfl rfl ?_
                  refine g_X12_20 (q := 229) rfl sh_226 (by exact ltG hG (by decide)) (by exact rG hG r0_226_5) dX12_expression_246 ?_
                  refine v_aload_n (i := 0) dX12_expression_249 rfl rfl ?_
                  refine g_X12_218 rfl sh_226 (by exact ltG hG (by decide)) dX12_expression_250 ?_
                  obtain ⟨k74, hF⟩ := ck_some hF
                  refine v_iaload sh_229 (by exact ltG hG (by decide)) (ixO k74) dX12_expression_253 ?_
                  obtain ⟨k75, hF⟩ := ck_some hF
                  refine v_iastore sh_259 (by exact ltG hG (by decide)) (ixO k75) dX12_expression_254 ?_
                  refine v_aload_n (i := 0) dX12_expression_255 rfl rfl ?_
                  refine v_dup dX12_expression_256 rfl ?_
                  refine g_X12_309 rfl sh_226 (by exact ltG hG (by decide)) dX12_expression_257 ?_
                  refine v_iconst (v := 1) dX12_expression_260 (by decide) ?_
                  refine v_iadd dX12_expression_261 ?_
                  refine p_X12_309 rfl sh_226 (by exact ltG hG (by decide)) dX12_expression_262 ?_
                  refine v_aload_n (i := 0) dX12_expression_265 rfl rfl ?_
                  obtain ⟨q76, q76_e, hF⟩ := Option.bind_eq_some_iff.mp hF
                  refine c_X12_236 rfl sh_226 (by exact ltG hG (by decide)) (Nat.le_of_ble_eq_true rfl) dX12_expression_266 (s_X12_goesOn _ q76_e hG) (fun r1 h1 hq => ?_)
                  obtain ⟨rfl, hq, hG⟩ := hq
                  replace hq := hq.symm
                  subst hq
                  simp only [Option.toList, List.nil_append]
                  refine v_goto 12 dX12_expression_269 (by decide) ?_
                  refine V.weak (la2 := [some (.ref 226), some (.int l1), some (.int 1)]) (by simp [wk]) ?_
                  exact (s_X12_expression_IH_12) _ _ _ _ hF hG
                · rw [if_neg c71] at hF
                  refine v_iconst (v := 1) dX12_expression_229 (by decide) ?_
                  refine v_goto 234 dX12_expression_230 (by decide) ?_
                  obtain ⟨q78, q78_e, hF⟩ := Option.bind_eq_some_iff.mp hF
                  refine c_X12_318 rfl sh_226 (by exact ltG hG (by decide)) (Nat.le_of_ble_eq_true rfl) dX12_expression_234 (s_X12_comesOut _ q78_e hG) (fun r1 h1 hq => ?_)
                  obtain ⟨rfl, hq, hG⟩ := hq
                  replace hq := hq.symm
                  subst hq
                  simp only [Option.toList, List.nil_append]
                  refine v_aload_n (i := 0) dX12_expression_237 rfl rfl ?_
                  refine g_X12_116 (q := 259) rfl sh_226 (by exact ltG hG (by decide)) (by exact rG hG r0_226_48) dX12_expression_238 ?_
                  refine v_aload_n (i := 0) dX12_expression_241 rfl rfl ?_
                  refine g_X12_309 rfl sh_226 (by exact ltG hG (by decide)) dX12_expression_242 ?_
                  refine v_aload_n (i := 0) dX12_expression_245 rfl rfl ?_
                  refine g_X12_20 (q := 229) rfl sh_226 (by exact ltG hG (by decide)) (by exact rG hG r0_226_5) dX12_expression_246 ?_
                  refine v_aload_n (i := 0) dX12_expression_249 rfl rfl ?_
                  refine g_X12_218 rfl sh_226 (by exact ltG hG (by decide)) dX12_expression_250 ?_
                  obtain ⟨k80, hF⟩ := ck_some hF
                  refine v_iaload sh_229 (by exact ltG hG (by decide)) (ixO k80) dX12_expression_253 ?_
                  obtain ⟨k81, hF⟩ := ck_some hF
                  refine v_iastore sh_259 (by exact ltG hG (by decide)) (ixO k81) dX12_expression_254 ?_
                  refine v_aload_n (i := 0) dX12_expression_255 rfl rfl ?_
                  refine v_dup dX12_expression_256 rfl ?_
                  refine g_X12_309 rfl sh_226 (by exact ltG hG (by decide)) dX12_expression_257 ?_
                  refine v_iconst (v := 1) dX12_expression_260 (by decide) ?_
                  refine v_iadd dX12_expression_261 ?_
                  refine p_X12_309 rfl sh_226 (by exact ltG hG (by decide)) dX12_expression_262 ?_
                  refine v_aload_n (i := 0) dX12_expression_265 rfl rfl ?_
                  obtain ⟨q82, q82_e, hF⟩ := Option.bind_eq_some_iff.mp hF
                  refine c_X12_236 rfl sh_226 (by exact ltG hG (by decide)) (Nat.le_of_ble_eq_true rfl) dX12_expression_266 (s_X12_goesOn _ q82_e hG) (fun r1 h1 hq => ?_)
                  obtain ⟨rfl, hq, hG⟩ := hq
                  replace hq := hq.symm
                  subst hq
                  simp only [Option.toList, List.nil_append]
                  refine v_goto 12 dX12_expression_269 (by decide) ?_
                  refine V.weak (la2 := [some (.ref 226), some (.int l1), some (.int 1)]) (by simp [wk]) ?_
                  exact (s_X12_expression_IH_12) _ _ _ _ hF hG
            · rw [if_pos c59] at hF
              refine v_aload_n (i := 0) dX12_expression_191 rfl rfl ?_
              refine g_X12_242 rfl sh_226 (by exact ltG hG (by decide)) dX12_expression_192 ?_
              refine v_iload_n (i := 1) dX12_expression_195 rfl rfl ?_
              refine v_icmp_le 204 dX12_expression_196 (by decide) (fun c84 => ?_) (fun c84 => ?_)
              · rw [if_pos c84] at hF
                refine v_aload_n (i := 0) dX12_expression_204 rfl rfl ?_
                refine v_iconst (v := 0) dX12_expression_205 (by decide) ?_
                obtain ⟨q85, q85_e, hF⟩ := Option.bind_eq_some_iff.mp hF
                refine c_X12_318 rfl sh_226 (by exact ltG hG (by decide)) (Nat.le_of_ble_eq_true rfl) dX12_expression_206 (s_X12_comesOut _ q85_e hG) (fun r1 h1 hq => ?_)
                obtain ⟨rfl, hq, hG⟩ := hq
                replace hq := hq.symm
                subst hq
                simp only [Option.toList, List.nil_append]
                refine v_return rfl dX12_expression_209 ?_
                obtain rfl := Option.some.inj hF
                exact ⟨rfl, rfl, hG⟩
              · rw [if_neg c84] at hF
                refine v_aload_n (i := 0) dX12_expression_199 rfl rfl ?_
                refine v_iconst (v := 1) dX12_expression_200 (by decide) ?_
                obtain ⟨q87, q87_e, hF⟩ := Option.bind_eq_some_iff.mp hF
                refine c_X12_230 rfl sh_226 (by exact ltG hG (by decide)) (Nat.le_of_ble_eq_true rfl) dX12_expression_201 (s_X12_fail _ q87_e hG) (fun r1 h1 hq => ?_)
                obtain ⟨rfl, hq, hG⟩ := hq
                replace hq := hq.symm
                subst hq
                simp only [Option.toList, List.nil_append]
                refine v_aload_n (i := 0) dX12_expression_204 rfl rfl ?_
                refine v_iconst (v := 0) dX12_expression_205 (by decide) ?_
                obtain ⟨q89, q89_e, hF⟩ := Option.bind_eq_some_iff.mp hF
                refine c_X12_318 rfl sh_226 (by exact ltG hG (by decide)) (Nat.le_of_ble_eq_true rfl) dX12_expression_206 (s_X12_comesOut _ q89_e hG) (fun r1 h1 hq => ?_)
                obtain ⟨rfl, hq, hG⟩ := hq
                replace hq := hq.symm
                subst hq
                simp only [Option.toList, List.nil_append]
                refine v_return rfl dX12_expression_209 ?_
                obtain rfl := Option.some.inj hF
                exact ⟨rfl, rfl, hG⟩
          · rw [if_pos c58] at hF
            refine v_aload_n (i := 0) dX12_expression_163 rfl rfl ?_
            refine v_bipush (v := 10) dX12_expression_164 (by decide) ?_
            obtain ⟨q91, q91_e, hF⟩ := Option.bind_eq_some_iff.mp hF
            refine c_X12_233 rfl sh_226 (by exact ltG hG (by decide)) (Nat.le_of_ble_eq_true rfl) dX12_expression_166 (s_X12_is _ q91_e hG) (fun r1 h1 hq => ?_)
            obtain ⟨rfl, hq, hG⟩ := hq
            replace hq := hq.symm
            subst hq
            show V _ _ _ _ (_ :: _) _ _
            refine v_if_ne 181 dX12_expression_169 (by decide) (fun c93 => ?_) (fun c93 => ?_)
            · rw [if_neg c93] at hF
              refine v_iconst (v := 1) dX12_expression_181 (by decide) ?_
              refine v_goto 186 dX12_expression_182 (by decide) ?_
              refine v_istore_n (i := 2) dX12_expression_186 rfl (by decide) (nlT rfl) ?_
              simp only [List.set_cons_zero, List.set_cons_succ]
              refine v_iload_n (i := 2) dX12_expression_187 rfl rfl ?_
              refine v_if_ne 210 dX12_expression_188 (by decide) (fun c94 => ?_) (fun c94 => ?_)
              · rw [if_neg c94] at hF
                refine v_aload_n (i := 0) dX12_expression_210 rfl rfl ?_
                refine v_aload_n (i := 0) dX12_expression_211 rfl rfl ?_
                refine v_bipush (v := 10) dX12_expression_212 (by decide) ?_
                obtain ⟨q95, q95_e, hF⟩ := Option.bind_eq_some_iff.mp hF
                refine c_X12_233 rfl sh_226 (by exact ltG hG (by decide)) (Nat.le_of_ble_eq_true rfl) dX12_expression_214 (s_X12_is _ q95_e hG) (fun r1 h1 hq => ?_)
                obtain ⟨rfl, hq, hG⟩ := hq
                replace hq := hq.symm
                subst hq
                show V _ _ _ _ (_ :: _) _ _
                refine v_if_ne 229 dX12_expression_217 (by decide) (fun c97 => ?_) (fun c97 => ?_)
                · rw [if_neg c97] at hF
                  refine v_iconst (v := 1) dX12_expression_229 (by decide) ?_
                  refine v_goto 234 dX12_expression_230 (by decide) ?_
                  obtain ⟨q98, q98_e, hF⟩ := Option.bind_eq_some_iff.mp hF
                  refine c_X12_318 rfl sh_226 (by exact ltG hG (by decide)) (Nat.le_of_ble_eq_true rfl) dX12_expression_234 (s_X12_comesOut _ q98_e hG) (fun r1 h1 hq => ?_)
                  obtain ⟨rfl, hq, hG⟩ := hq
                  replace hq := hq.symm
                  subst hq
                  simp only [Option.toList, List.nil_append]
                  refine v_aload_n (i := 0) dX12_expression_237 rfl rfl ?_
                  refine g_X12_116 (q := 259) rfl sh_226 (by exact ltG hG (by decide)) (by exact rG hG r0_226_48) dX12_expression_238 ?_
                  refine v_aload_n (i := 0) dX12_expression_241 rfl rfl ?_
                  refine g_X12_309 rfl sh_226 (by exact ltG hG (by decide)) dX12_expression_242 ?_
                  refine v_aload_n (i := 0) dX12_expression_245 rfl rfl ?_
                  refine g_X12_20 (q := 229) rfl sh_226 (by exact ltG hG (by decide)) (by exact rG hG r0_226_5) dX12_expression_246 ?_
                  refine v_aload_n (i := 0) dX12_expression_249 rfl rfl ?_
                  refine g_X12_218 rfl sh_226 (by exact ltG hG (by decide)) dX12_expression_250 ?_
                  obtain ⟨k100, hF⟩ := ck_some hF
                  refine v_iaload sh_229 (by exact ltG hG (by decide)) (ixO k100) dX12_expression_253 ?_
                  obtain ⟨k101, hF⟩ := ck_some hF
                  refine v_iastore sh_259 (by exact ltG hG (by decide)) (ixO k101) dX12_expression_254 ?_
                  refine v_aload_n (i := 0) dX12_expression_255 rfl rfl ?_
                  refine v_dup dX12_expression_256 rfl ?_
                  refine g_X12_309 rfl sh_226 (by exact ltG hG (by decide)) dX12_expression_257 ?_
                  refine v_iconst (v := 1) dX12_expression_260 (by decide) ?_
                  refine v_iadd dX12_expression_261 ?_
                  refine p_X12_309 rfl sh_226 (by exact ltG hG (by decide)) dX12_expression_262 ?_
                  refine v_aload_n (i := 0) dX12_expression_265 rfl rfl ?_
                  obtain ⟨q102, q102_e, hF⟩ := Option.bind_eq_some_iff.mp hF
                  refine c_X12_236 rfl sh_226 (by exact ltG hG (by decide)) (Nat.le_of_ble_eq_true rfl) dX12_expression_266 (s_X12_goesOn _ q102_e hG) (fun r1 h1 hq => ?_)
                  obtain ⟨rfl, hq, hG⟩ := hq
                  replace hq := hq.symm
                  subst hq
                  simp only [Option.toList, List.nil_append]
                  refine v_goto 12 dX12_expression_269 (by decide) ?_
                  refine V.weak (la2 := [some (.ref 226), some (.int l1), some (.int 1)]) (by simp [wk]) ?_
                  exact (s_X12_expression_IH_12) _ _ _ _ hF hG
                · rw [if_pos c97] at hF
                  refine v_aload_n (i := 0) dX12_expression_220 rfl rfl ?_
                  refine v_bipush (v := 15) dX12_expression_221 (by decide) ?_
                  obtain ⟨q104, q104_e, hF⟩ := Option.bind_eq_some_iff.mp hF
                  refine c_X12_233 rfl sh_226 (by exact ltG hG (by decide)) (Nat.le_of_ble_eq_true rfl) dX12_expression_223 (s_X12_is _ q104_e hG) (fun r1 h1 hq => ?_)
                  obtain ⟨rfl, hq, hG⟩ := hq
                  replace hq := hq.symm
                  subst hq
                  show V _ _ _ _ (_ :: _) _ _
                  refine v_if_eq 233 dX12_expression_226 (by decide) (fun c106 => ?_) (fun c106 => ?_)
                  · rw [if_pos c106] at hF
                    refine v_iconst (v := 0) dX12_expression_233 (by decide) ?_
                    obtain ⟨q107, q107_e, hF⟩ := Option.bind_eq_some_iff.mp hF
                    refine c_X12_318 rfl sh_226 (by exact ltG hG (by decide)) (Nat.le_of_ble_eq_true rfl) dX12_expression_234 (s_X12_comesOut _ q107_e hG) (fun r1 h1 hq => ?_)
                    obtain ⟨rfl, hq, hG⟩ := hq
                    replace hq := hq.symm
                    subst hq
                    simp only [Option.toList, List.nil_append]
                    refine v_aload_n (i := 0) dX12_expression_237 rfl rfl ?_
                    refine g_X12_116 (q := 259) rfl sh_226 (by exact ltG hG (by decide)) (by exact rG hG r0_226_48) dX12_expression_238 ?_
                    refine v_aload_n (i := 0) dX12_expression_241 rfl rfl ?_
                    refine g_X12_309 rfl sh_226 (by exact ltG hG (by decide)) dX12_expression_242 ?_
                    refine v_aload_n (i := 0) dX12_expression_245 rfl rfl ?_
                    refine g_X12_20 (q := 229) rfl sh_226 (by exact ltG hG (by decide)) (by exact rG hG r0_226_5) dX12_expression_246 ?_
                    refine v_aload_n (i := 0) dX12_expression_249 rfl rfl ?_
                    refine g_X12_218 rfl sh_226 (by exact ltG hG (by decide)) dX12_expression_250 ?_
                    obtain ⟨k109, hF⟩ := ck_some hF
                    refine v_iaload sh_229 (by exact ltG hG (by decide)) (ixO k109) dX12_expression_253 ?_
                    obtain ⟨k110, hF⟩ := ck_some hF
                    refine v_iastore sh_259 (by exact ltG hG (by decide)) (ixO k110) dX12_expression_254 ?_
                    refine v_aload_n (i := 0) dX12_expression_255 rfl rfl ?_
                    refine v_dup dX12_expression_256 rfl ?_
                    refine g_X12_309 rfl sh_226 (by exact ltG hG (by decide)) dX12_expression_257 ?_
                    refine v_iconst (v := 1) dX12_expression_260 (by decide) ?_
                    refine v_iadd dX12_expression_261 ?_
                    refine p_X12_309 rfl sh_226 (by exact ltG hG (by decide)) dX12_expression_262 ?_
                    refine v_aload_n (i := 0) dX12_expression_265 rfl rfl ?_
                    obtain ⟨q111, q111_e, hF⟩ := Option.bind_eq_some_iff.mp hF
                    refine c_X12_236 rfl sh_226 (by exact ltG hG (by decide)) (Nat.le_of_ble_eq_true rfl) dX12_expression_266 (s_X12_goesOn _ q111_e hG) (fun r1 h1 hq => ?_)
                    obtain ⟨rfl, hq, hG⟩ := hq
                    replace hq := hq.symm
                    subst hq
                    simp only [Option.toList, List.nil_append]
                    refine v_goto 12 dX12_expression_269 (by decide) ?_
                    refine V.weak (la2 := [some (.ref 226), some (.int l1), some (.int 1)]) (by simp [wk]) ?_
                    exact (s_X12_expression_IH_12) _ _ _ _ hF hG
                  · rw [if_neg c106] at hF
                    refine v_iconst (v := 1) dX12_expression_229 (by decide) ?_
                    refine v_goto 234 dX12_expression_230 (by decide) ?_
                    obtain ⟨q113, q113_e, hF⟩ := Option.bind_eq_some_iff.mp hF
                    refine c_X12_318 rfl sh_226 (by exact ltG hG (by decide)) (Nat.le_of_ble_eq_true rfl) dX12_expression_234 (s_X12_comesOut _ q113_e hG) (fun r1 h1 hq => ?_)
                    obtain ⟨rfl, hq, hG⟩ := hq
                    replace hq := hq.symm
                    subst hq
                    simp only [Option.toList, List.nil_append]
                    refine v_aload_n (i := 0) dX12_expression_237 rfl rfl ?_
                    refine g_X12_116 (q := 259) rfl sh_226 (by exact ltG hG (by decide)) (by exact rG hG r0_226_48) dX12_expression_238 ?_
                    refine v_aload_n (i := 0) dX12_expression_241 rfl rfl ?_
                    refine g_X12_309 rfl sh_226 (by exact ltG hG (by decide)) dX12_expression_242 ?_
                    refine v_aload_n (i := 0) dX12_expression_245 rfl rfl ?_
                    refine g_X12_20 (q := 229) rfl sh_226 (by exact ltG hG (by decide)) (by exact rG hG r0_226_5) dX12_expression_246 ?_
                    refine v_aload_n (i := 0) dX12_expression_249 rfl rfl ?_
                    refine g_X12_218 rfl sh_226 (by exact ltG hG (by decide)) dX12_expression_250 ?_
                    obtain ⟨k115, hF⟩ := ck_some hF
                    refine v_iaload sh_229 (by exact ltG hG (by decide)) (ixO k115) dX12_expression_253 ?_
                    obtain ⟨k116, hF⟩ := ck_some hF
                    refine v_iastore sh_259 (by exact ltG hG (by decide)) (ixO k116) dX12_expression_254 ?_
                    refine v_aload_n (i := 0) dX12_expression_255 rfl rfl ?_
                    refine v_dup dX12_expression_256 rfl ?_
                    refine g_X12_309 rfl sh_226 (by exact ltG hG (by decide)) dX12_expression_257 ?_
                    refine v_iconst (v := 1) dX12_expression_260 (by decide) ?_
                    refine v_iadd dX12_expression_261 ?_
                    refine p_X12_309 rfl sh_226 (by exact ltG hG (by decide)) dX12_expression_262 ?_
                    refine v_aload_n (i := 0) dX12_expression_265 rfl rfl ?_
                    obtain ⟨q117, q117_e, hF⟩ := Option.bind_eq_some_iff.mp hF
                    refine c_X12_236 rfl sh_226 (by exact ltG hG (by decide)) (Nat.le_of_ble_eq_true rfl) dX12_expression_266 (s_X12_goesOn _ q117_e hG) (fun r1 h1 hq => ?_)
                    obtain ⟨rfl, hq, hG⟩ := hq
                    replace hq := hq.symm
                    subst hq
                    simp only [Option.toList, List.nil_append]
                    refine v_goto 12 dX12_expression_269 (by decide) ?_
                    refine V.weak (la2 := [some (.ref 226), some (.int l1), some (.int 1)]) (by simp [wk]) ?_
                    exact (s_X12_expression_IH_12) _ _ _ _ hF hG
              · rw [if_pos c94] at hF
                refine v_aload_n (i := 0) dX12_expression_191 rfl rfl ?_
                refine g_X12_242 rfl sh_226 (by exact ltG hG (by decide)) dX12_expression_192 ?_
                refine v_iload_n (i := 1) dX12_expression_195 rfl rfl ?_
                refine v_icmp_le 204 dX12_expression_196 (by decide) (fun c119 => ?_) (fun c119 => ?_)
                · rw [if_pos c119] at hF
                  refine v_aload_n (i := 0) dX12_expression_204 rfl rfl ?_
                  refine v_iconst (v := 0) dX12_expression_205 (by decide) ?_
                  obtain ⟨q120, q120_e, hF⟩ := Option.bind_eq_some_iff.mp hF
                  refine c_X12_318 rfl sh_226 (by exact ltG hG (by decide)) (Nat.le_of_ble_eq_true rfl) dX12_expression_206 (s_X12_comesOut _ q120_e hG) (fun r1 h1 hq => ?_)
                  obtain ⟨rfl, hq, hG⟩ := hq
                  replace hq := hq.symm
                  subst hq
                  simp only [Option.toList, List.nil_append]
                  refine v_return rfl dX12_expression_209 ?_
                  obtain rfl := Option.some.inj hF
                  exact ⟨rfl, rfl, hG⟩
                · rw [if_neg c119] at hF
                  refine v_aload_n (i := 0) dX12_expression_199 rfl rfl ?_
                  refine v_iconst (v := 1) dX12_expression_200 (by decide) ?_
                  obtain ⟨q122, q122_e, hF⟩ := Option.bind_eq_some_iff.mp hF
                  refine c_X12_230 rfl sh_226 (by exact ltG hG (by decide)) (Nat.le_of_ble_eq_true rfl) dX12_expression_201 (s_X12_fail _ q122_e hG) (fun r1 h1 hq => ?_)
                  obtain ⟨rfl, hq, hG⟩ := hq
                  replace hq := hq.symm
                  subst hq
                  simp only [Option.toList, List.nil_append]
                  refine v_aload_n (i := 0) dX12_expression_204 rfl rfl ?_
                  refine v_iconst (v := 0) dX12_expression_205 (by decide) ?_
                  obtain ⟨q124, q124_e, hF⟩ := Option.bind_eq_some_iff.mp hF
                  refine c_X12_318 rfl sh_226 (by exact ltG hG (by decide)) (Nat.le_of_ble_eq_true rfl) dX12_expression_206 (s_X12_comesOut _ q124_e hG) (fun r1 h1 hq => ?_)
                  obtain ⟨rfl, hq, hG⟩ := hq
                  replace hq := hq.symm
                  subst hq
                  simp only [Option.toList, List.nil_append]
                  refine v_return rfl dX12_expression_209 ?_
                  obtain rfl := Option.some.inj hF
                  exact ⟨rfl, rfl, hG⟩
            · rw [if_pos c93] at hF
              refine v_aload_n (i := 0) dX12_expression_172 rfl rfl ?_
              refine v_bipush (v := 15) dX12_expression_173 (by decide) ?_
              obtain ⟨q126, q126_e, hF⟩ := Option.bind_eq_some_iff.mp hF
              refine c_X12_233 rfl sh_226 (by exact ltG hG (by decide)) (Nat.le_of_ble_eq_true rfl) dX12_expression_175 (s_X12_is _ q126_e hG) (fun r1 h1 hq => ?_)
              obtain ⟨rfl, hq, hG⟩ := hq
              replace hq := hq.symm
              subst hq
              show V _ _ _ _ (_ :: _) _ _
              refine v_if_eq 185 dX12_expression_178 (by decide) (fun c128 => ?_) (fun c128 => ?_)
              · rw [if_pos c128] at hF
                refine v_iconst (v := 0) dX12_expression_185 (by decide) ?_
                refine v_istore_n (i := 2) dX12_expression_186 rfl (by decide) (nlT rfl) ?_
                simp only [List.set_cons_zero, List.set_cons_succ]
                refine v_iload_n (i := 2) dX12_expression_187 rfl rfl ?_
                refine v_if_ne 210 dX12_expression_188 (by decide) (fun c129 => ?_) (fun c129 => ?_)
                · rw [if_neg c129] at hF
                  refine v_aload_n (i := 0) dX12_expression_210 rfl rfl ?_
                  refine v_aload_n (i := 0) dX12_expression_211 rfl rfl ?_
                  refine v_bipush (v := 10) dX12_expression_212 (by decide) ?_
                  obtain ⟨q130, q130_e, hF⟩ := Option.bind_eq_some_iff.mp hF
                  refine c_X12_233 rfl sh_226 (by exact ltG hG (by decide)) (Nat.le_of_ble_eq_true rfl) dX12_expression_214 (s_X12_is _ q130_e hG) (fun r1 h1 hq => ?_)
                  obtain ⟨rfl, hq, hG⟩ := hq
                  replace hq := hq.symm
                  subst hq
                  show V _ _ _ _ (_ :: _) _ _
                  refine v_if_ne 229 dX12_expression_217 (by decide) (fun c132 => ?_) (fun c132 => ?_)
                  · rw [if_neg c132] at hF
                    refine v_iconst (v := 1) dX12_expression_229 (by decide) ?_
                    refine v_goto 234 dX12_expression_230 (by decide) ?_
                    obtain ⟨q133, q133_e, hF⟩ := Option.bind_eq_some_iff.mp hF
                    refine c_X12_318 rfl sh_226 (by exact ltG hG (by decide)) (Nat.le_of_ble_eq_true rfl) dX12_expression_234 (s_X12_comesOut _ q133_e hG) (fun r1 h1 hq => ?_)
                    obtain ⟨rfl, hq, hG⟩ := hq
                    replace hq := hq.symm
                    subst hq
                    simp only [Option.toList, List.nil_append]
                    refine v_aload_n (i := 0) dX12_expression_237 rfl rfl ?_
                    refine g_X12_116 (q := 259) rfl sh_226 (by exact ltG hG (by decide)) (by exact rG hG r0_226_48) dX12_expression_238 ?_
                    refine v_aload_n (i := 0) dX12_expression_241 rfl rfl ?_
                    refine g_X12_309 rfl sh_226 (by exact ltG hG (by decide)) dX12_expression_242 ?_
                    refine v_aload_n (i := 0) dX12_expression_245 rfl rfl ?_
                    refine g_X12_20 (q := 229) rfl sh_226 (by exact ltG hG (by decide)) (by exact rG hG r0_226_5) dX12_expression_246 ?_
                    refine v_aload_n (i := 0) dX12_expression_249 rfl rfl ?_
                    refine g_X12_218 rfl sh_226 (by exact ltG hG (by decide)) dX12_expression_250 ?_
                    obtain ⟨k135, hF⟩ := ck_some hF
                    refine v_iaload sh_229 (by exact ltG hG (by decide)) (ixO k135) dX12_expression_253 ?_
                    obtain ⟨k136, hF⟩ := ck_some hF
                    refine v_iastore sh_259 (by exact ltG hG (by decide)) (ixO k136) dX12_expression_254 ?_
                    refine v_aload_n (i := 0) dX12_expression_255 rfl rfl ?_
                    refine v_dup dX12_expression_256 rfl ?_
                    refine g_X12_309 rfl sh_226 (by exact ltG hG (by decide)) dX12_expression_257 ?_
                    refine v_iconst (v := 1) dX12_expression_260 (by decide) ?_
                    refine v_iadd dX12_expression_261 ?_
                    refine p_X12_309 rfl sh_226 (by exact ltG hG (by decide)) dX12_expression_262 ?_
                    refine v_aload_n (i := 0) dX12_expression_265 rfl rfl ?_
                    obtain ⟨q137, q137_e, hF⟩ := Option.bind_eq_some_iff.mp hF
                    refine c_X12_236 rfl sh_226 (by exact ltG hG (by decide)) (Nat.le_of_ble_eq_true rfl) dX12_expression_266 (s_X12_goesOn _ q137_e hG) (fun r1 h1 hq => ?_)
                    obtain ⟨rfl, hq, hG⟩ := hq
                    replace hq := hq.symm
                    subst hq
                    simp only [Option.toList, List.nil_append]
                    refine v_goto 12 dX12_expression_269 (by decide) ?_
                    refine V.weak (la2 := [some (.ref 226), some (.int l1), some (.int 0)]) (by simp [wk]) ?_
                    exact (s_X12_expression_IH_12) _ _ _ _ hF hG
                  · rw [if_pos c132] at hF
                    refine v_aload_n (i := 0) dX12_expression_220 rfl rfl ?_
                    refine v_bipush (v := 15) dX12_expression_221 (by decide) ?_
                    obtain ⟨q139, q139_e, hF⟩ := Option.bind_eq_some_iff.mp hF
                    refine c_X12_233 rfl sh_226 (by exact ltG hG (by decide)) (Nat.le_of_ble_eq_true rfl) dX12_expression_223 (s_X12_is _ q139_e hG) (fun r1 h1 hq => ?_)
                    obtain ⟨rfl, hq, hG⟩ := hq
                    replace hq := hq.symm
                    subst hq
                    show V _ _ _ _ (_ :: _) _ _
                    refine v_if_eq 233 dX12_expression_226 (by decide) (fun c141 => ?_) (fun c141 => ?_)
                    · rw [if_pos c141] at hF
                      refine v_iconst (v := 0) dX12_expression_233 (by decide) ?_
                      obtain ⟨q142, q142_e, hF⟩ := Option.bind_eq_some_iff.mp hF
                      refine c_X12_318 rfl sh_226 (by exact ltG hG (by decide)) (Nat.le_of_ble_eq_true rfl) dX12_expression_234 (s_X12_comesOut _ q142_e hG) (fun r1 h1 hq => ?_)
                      obtain ⟨rfl, hq, hG⟩ := hq
                      replace hq := hq.symm
                      subst hq
                      simp only [Option.toList, List.nil_append]
                      refine v_aload_n (i := 0) dX12_expression_237 rfl rfl ?_
                      refine g_X12_116 (q := 259) rfl sh_226 (by exact ltG hG (by decide)) (by exact rG hG r0_226_48) dX12_expression_238 ?_
                      refine v_aload_n (i := 0) dX12_expression_241 rfl rfl ?_
                      refine g_X12_309 rfl sh_226 (by exact ltG hG (by decide)) dX12_expression_242 ?_
                      refine v_aload_n (i := 0) dX12_expression_245 rfl rfl ?_
                      refine g_X12_20 (q := 229) rfl sh_226 (by exact ltG hG (by decide)) (by exact rG hG r0_226_5) dX12_expression_246 ?_
                      refine v_aload_n (i := 0) dX12_expression_249 rfl rfl ?_
                      refine g_X12_218 rfl sh_226 (by exact ltG hG (by decide)) dX12_expression_250 ?_
                      obtain ⟨k144, hF⟩ := ck_some hF
                      refine v_iaload sh_229 (by exact ltG hG (by decide)) (ixO k144) dX12_expression_253 ?_
                      obtain ⟨k145, hF⟩ := ck_some hF
                      refine v_iastore sh_259 (by exact ltG hG (by decide)) (ixO k145) dX12_expression_254 ?_
                      refine v_aload_n (i := 0) dX12_expression_255 rfl rfl ?_
                      refine v_dup dX12_expression_256 rfl ?_
                      refine g_X12_309 rfl sh_226 (by exact ltG hG (by decide)) dX12_expression_257 ?_
                      refine v_iconst (v := 1) dX12_expression_260 (by decide) ?_
                      refine v_iadd dX12_expression_261 ?_
                      refine p_X12_309 rfl sh_226 (by exact ltG hG (by decide)) dX12_expression_262 ?_
                      refine v_aload_n (i := 0) dX12_expression_265 rfl rfl ?_
                      obtain ⟨q146, q146_e, hF⟩ := Option.bind_eq_some_iff.mp hF
                      refine c_X12_236 rfl sh_226 (by exact ltG hG (by decide)) (Nat.le_of_ble_eq_true rfl) dX12_expression_266 (s_X12_goesOn _ q146_e hG) (fun r1 h1 hq => ?_)
                      obtain ⟨rfl, hq, hG⟩ := hq
                      replace hq := hq.symm
                      subst hq
                      simp only [Option.toList, List.nil_append]
                      refine v_goto 12 dX12_expression_269 (by decide) ?_
                      refine V.weak (la2 := [some (.ref 226), some (.int l1), some (.int 0)]) (by simp [wk]) ?_
                      exact (s_X12_expression_IH_12) _ _ _ _ hF hG
                    · rw [if_neg c141] at hF
                      refine v_iconst (v := 1) dX12_expression_229 (by decide) ?_
                      refine v_goto 234 dX12_expression_230 (by decide) ?_
                      obtain ⟨q148, q148_e, hF⟩ := Option.bind_eq_some_iff.mp hF
                      refine c_X12_318 rfl sh_226 (by exact ltG hG (by decide)) (Nat.le_of_ble_eq_true rfl) dX12_expression_234 (s_X12_comesOut _ q148_e hG) (fun r1 h1 hq => ?_)
                      obtain ⟨rfl, hq, hG⟩ := hq
                      replace hq := hq.symm
                      subst hq
                      simp only [Option.toList, List.nil_append]
                      refine v_aload_n (i := 0) dX12_expression_237 rfl rfl ?_
                      refine g_X12_116 (q := 259) rfl sh_226 (by exact ltG hG (by decide)) (by exact rG hG r0_226_48) dX12_expression_238 ?_
                      refine v_aload_n (i := 0) dX12_expression_241 rfl rfl ?_
                      refine g_X12_309 rfl sh_226 (by exact ltG hG (by decide)) dX12_expression_242 ?_
                      refine v_aload_n (i := 0) dX12_expression_245 rfl rfl ?_
                      refine g_X12_20 (q := 229) rfl sh_226 (by exact ltG hG (by decide)) (by exact rG hG r0_226_5) dX12_expression_246 ?_
                      refine v_aload_n (i := 0) dX12_expression_249 rfl rfl ?_
                      refine g_X12_218 rfl sh_226 (by exact ltG hG (by decide)) dX12_expression_250 ?_
                      obtain ⟨k150, hF⟩ := ck_some hF
                      refine v_iaload sh_229 (by exact ltG hG (by decide)) (ixO k150) dX12_expression_253 ?_
                      obtain ⟨k151, hF⟩ := ck_some hF
                      refine v_iastore sh_259 (by exact ltG hG (by decide)) (ixO k151) dX12_expression_254 ?_
                      refine v_aload_n (i := 0) dX12_expression_255 rfl rfl ?_
                      refine v_dup dX12_expression_256 rfl ?_
                      refine g_X12_309 rfl sh_226 (by exact ltG hG (by decide)) dX12_expression_257 ?_
                      refine v_iconst (v := 1) dX12_expression_260 (by decide) ?_
                      refine v_iadd dX12_expression_261 ?_
                      refine p_X12_309 rfl sh_226 (by exact ltG hG (by decide)) dX12_expression_262 ?_
                      refine v_aload_n (i := 0) dX12_expression_265 rfl rfl ?_
                      obtain ⟨q152, q152_e, hF⟩ := Option.bind_eq_some_iff.mp hF
                      refine c_X12_236 rfl sh_226 (by exact ltG hG (by decide)) (Nat.le_of_ble_eq_true rfl) dX12_expression_266 (s_X12_goesOn _ q152_e hG) (fun r1 h1 hq => ?_)
                      obtain ⟨rfl, hq, hG⟩ := hq
                      replace hq := hq.symm
                      subst hq
                      simp only [Option.toList, List.nil_append]
                      refine v_goto 12 dX12_expression_269 (by decide) ?_
                      refine V.weak (la2 := [some (.ref 226), some (.int l1), some (.int 0)]) (by simp [wk]) ?_
                      exact (s_X12_expression_IH_12) _ _ _ _ hF hG
                · rw [if_pos c129] at hF
                  refine v_aload_n (i := 0) dX12_expression_191 rfl rfl ?_
                  refine g_X12_242 rfl sh_226 (by exact ltG hG (by decide)) dX12_expression_192 ?_
                  refine v_iload_n (i := 1) dX12_expression_195 rfl rfl ?_
                  refine v_icmp_le 204 dX12_expression_196 (by decide) (fun c154 => ?_) (fun c154 => ?_)
                  · rw [if_pos c154] at hF
                    refine v_aload_n (i := 0) dX12_expression_204 rfl rfl ?_
                    refine v_iconst (v := 0) dX12_expression_205 (by decide) ?_
                    obtain ⟨q155, q155_e, hF⟩ := Option.bind_eq_some_iff.mp hF
                    refine c_X12_318 rfl sh_226 (by exact ltG hG (by decide)) (Nat.le_of_ble_eq_true rfl) dX12_expression_206 (s_X12_comesOut _ q155_e hG) (fun r1 h1 hq => ?_)
                    obtain ⟨rfl, hq, hG⟩ := hq
                    replace hq := hq.symm
                    subst hq
                    simp only [Option.toList, List.nil_append]
                    refine v_return rfl dX12_expression_209 ?_
                    obtain rfl := Option.some.inj hF
                    exact ⟨rfl, rfl, hG⟩
                  · rw [if_neg c154] at hF
                    refine v_aload_n (i := 0) dX12_expression_199 rfl rfl ?_
                    refine v_iconst (v := 1) dX12_expression_200 (by decide) ?_
                    obtain ⟨q157, q157_e, hF⟩ := Option.bind_eq_some_iff.mp hF
                    refine c_X12_230 rfl sh_226 (by exact ltG hG (by decide)) (Nat.le_of_ble_eq_true rfl) dX12_expression_201 (s_X12_fail _ q157_e hG) (fun r1 h1 hq => ?_)
                    obtain ⟨rfl, hq, hG⟩ := hq
                    replace hq := hq.symm
                    subst hq
                    simp only [Option.toList, List.nil_append]
                    refine v_aload_n (i := 0) dX12_expression_204 rfl rfl ?_
                    refine v_iconst (v := 0) dX12_expression_205 (by decide) ?_
                    obtain ⟨q159, q159_e, hF⟩ := Option.bind_eq_some_iff.mp hF
                    refine c_X12_318 rfl sh_226 (by exact ltG hG (by decide)) (Nat.le_of_ble_eq_true rfl) dX12_expression_206 (s_X12_comesOut _ q159_e hG) (fun r1 h1 hq => ?_)
                    obtain ⟨rfl, hq, hG⟩ := hq
                    replace hq := hq.symm
                    subst hq
                    simp only [Option.toList, List.nil_append]
                    refine v_return rfl dX12_expression_209 ?_
                    obtain rfl := Option.some.inj hF
                    exact ⟨rfl, rfl, hG⟩
              · rw [if_neg c128] at hF
                refine v_iconst (v := 1) dX12_expression_181 (by decide) ?_
                refine v_goto 186 dX12_expression_182 (by decide) ?_
                refine v_istore_n (i := 2) dX12_expression_186 rfl (by decide) (nlT rfl) ?_
                simp only [List.set_cons_zero, List.set_cons_succ]
                refine v_iload_n (i := 2) dX12_expression_187 rfl rfl ?_
                refine v_if_ne 210 dX12_expression_188 (by decide) (fun c161 => ?_) (fun c161 => ?_)
                · rw [if_neg c161] at hF
                  refine v_aload_n (i := 0) dX12_expression_210 rfl rfl ?_
                  refine v_aload_n (i := 0) dX12_expression_211 rfl rfl ?_
                  refine v_bipush (v := 10) dX12_expression_212 (by decide) ?_
                  obtain ⟨q162, q162_e, hF⟩ := Option.bind_eq_some_iff.mp hF
                  refine c_X12_233 rfl sh_226 (by exact ltG hG (by decide)) (Nat.le_of_ble_eq_true rfl) dX12_expression_214 (s_X12_is _ q162_e hG) (fun r1 h1 hq => ?_)
                  obtain ⟨rfl, hq, hG⟩ := hq
                  replace hq := hq.symm
                  subst hq
                  show V _ _ _ _ (_ :: _) _ _
                  refine v_if_ne 229 dX12_expression_217 (by decide) (fun c164 => ?_) (fun c164 => ?_)
                  · rw [if_neg c164] at hF
                    refine v_iconst (v := 1) dX12_expression_229 (by decide) ?_
                    refine v_goto 234 dX12_expression_230 (by decide) ?_
                    obtain ⟨q165, q165_e, hF⟩ := Option.bind_eq_some_iff.mp hF
                    refine c_X12_318 rfl sh_226 (by exact ltG hG (by decide)) (Nat.le_of_ble_eq_true rfl) dX12_expression_234 (s_X12_comesOut _ q165_e hG) (fun r1 h1 hq => ?_)
                    obtain ⟨rfl, hq, hG⟩ := hq
                    replace hq := hq.symm
                    subst hq
                    simp only [Option.toList, List.nil_append]
                    refine v_aload_n (i := 0) dX12_expression_237 rfl rfl ?_
                    refine g_X12_116 (q := 259) rfl sh_226 (by exact ltG hG (by decide)) (by exact rG hG r0_226_48) dX12_expression_238 ?_
                    refine v_aload_n (i := 0) dX12_expression_241 rfl rfl ?_
                    refine g_X12_309 rfl sh_226 (by exact ltG hG (by decide)) dX12_expression_242 ?_
                    refine v_aload_n (i := 0) dX12_expression_245 rfl rfl ?_
                    refine g_X12_20 (q := 229) rfl sh_226 (by exact ltG hG (by decide)) (by exact rG hG r0_226_5) dX12_expression_246 ?_
                    refine v_aload_n (i := 0) dX12_expression_249 rfl rfl ?_
                    refine g_X12_218 rfl sh_226 (by exact ltG hG (by decide)) dX12_expression_250 ?_
                    obtain ⟨k167, hF⟩ := ck_some hF
                    refine v_iaload sh_229 (by exact ltG hG (by decide)) (ixO k167) dX12_expression_253 ?_
                    obtain ⟨k168, hF⟩ := ck_some hF
                    refine v_iastore sh_259 (by exact ltG hG (by decide)) (ixO k168) dX12_expression_254 ?_
                    refine v_aload_n (i := 0) dX12_expression_255 rfl rfl ?_
                    refine v_dup dX12_expression_256 rfl ?_
                    refine g_X12_309 rfl sh_226 (by exact ltG hG (by decide)) dX12_expression_257 ?_
                    refine v_iconst (v := 1) dX12_expression_260 (by decide) ?_
                    refine v_iadd dX12_expression_261 ?_
                    refine p_X12_309 rfl sh_226 (by exact ltG hG (by decide)) dX12_expression_262 ?_
                    refine v_aload_n (i := 0) dX12_expression_265 rfl rfl ?_
                    obtain ⟨q169, q169_e, hF⟩ := Option.bind_eq_some_iff.mp hF
                    refine c_X12_236 rfl sh_226 (by exact ltG hG (by decide)) (Nat.le_of_ble_eq_true rfl) dX12_expression_266 (s_X12_goesOn _ q169_e hG) (fun r1 h1 hq => ?_)
                    obtain ⟨rfl, hq, hG⟩ := hq
                    replace hq := hq.symm
                    subst hq
                    simp only [Option.toList, List.nil_append]
                    refine v_goto 12 dX12_expression_269 (by decide) ?_
                    refine V.weak (la2 := [some (.ref 226), some (.int l1), some (.int 1)]) (by simp [wk]) ?_
                    exact (s_X12_expression_IH_12) _ _ _ _ hF hG
                  · rw [if_pos c164] at hF
                    refine v_aload_n (i := 0) dX12_expression_220 rfl rfl ?_
                    refine v_bipush (v := 15) dX12_expression_221 (by decide) ?_
                    obtain ⟨q171, q171_e, hF⟩ := Option.bind_eq_some_iff.mp hF
                    refine c_X12_233 rfl sh_226 (by exact ltG hG (by decide)) (Nat.le_of_ble_eq_true rfl) dX12_expression_223 (s_X12_is _ q171_e hG) (fun r1 h1 hq => ?_)
                    obtain ⟨rfl, hq, hG⟩ := hq
                    replace hq := hq.symm
                    subst hq
                    show V _ _ _ _ (_ :: _) _ _
                    refine v_if_eq 233 dX12_expression_226 (by decide) (fun c173 => ?_) (fun c173 => ?_)
                    · rw [if_pos c173] at hF
                      refine v_iconst (v := 0) dX12_expression_233 (by decide) ?_
                      obtain ⟨q174, q174_e, hF⟩ := Option.bind_eq_some_iff.mp hF
                      refine c_X12_318 rfl sh_226 (by exact ltG hG (by decide)) (Nat.le_of_ble_eq_true rfl) dX12_expression_234 (s_X12_comesOut _ q174_e hG) (fun r1 h1 hq => ?_)
                      obtain ⟨rfl, hq, hG⟩ := hq
                      replace hq := hq.symm
                      subst hq
                      simp only [Option.toList, List.nil_append]
                      refine v_aload_n (i := 0) dX12_expression_237 rfl rfl ?_
                      refine g_X12_116 (q := 259) rfl sh_226 (by exact ltG hG (by decide)) (by exact rG hG r0_226_48) dX12_expression_238 ?_
                      refine v_aload_n (i := 0) dX12_expression_241 rfl rfl ?_
                      refine g_X12_309 rfl sh_226 (by exact ltG hG (by decide)) dX12_expression_242 ?_
                      refine v_aload_n (i := 0) dX12_expression_245 rfl rfl ?_
                      refine g_X12_20 (q := 229) rfl sh_226 (by exact ltG hG (by decide)) (by exact rG hG r0_226_5) dX12_expression_246 ?_
                      refine v_aload_n (i := 0) dX12_expression_249 rfl rfl ?_
                      refine g_X12_218 rfl sh_226 (by exact ltG hG (by decide)) dX12_expression_250 ?_
                      obtain ⟨k176, hF⟩ := ck_some hF
                      refine v_iaload sh_229 (by exact ltG hG (by decide)) (ixO k176) dX12_expression_253 ?_
                      obtain ⟨k177, hF⟩ := ck_some hF
                      refine v_iastore sh_259 (by exact ltG hG (by decide)) (ixO k177) dX12_expression_254 ?_
                      refine v_aload_n (i := 0) dX12_expression_255 rfl rfl ?_
                      refine v_dup dX12_expression_256 rfl ?_
                      refine g_X12_309 rfl sh_226 (by exact ltG hG (by decide)) dX12_expression_257 ?_
                      refine v_iconst (v := 1) dX12_expression_260 (by decide) ?_
                      refine v_iadd dX12_expression_261 ?_
                      refine p_X12_309 rfl sh_226 (by exact ltG hG (by decide)) dX12_expression_262 ?_
                      refine v_aload_n (i := 0) dX12_expression_265 rfl rfl ?_
                      obtain ⟨q178, q178_e, hF⟩ := Option.bind_eq_some_iff.mp hF
                      refine c_X12_236 rfl sh_226 (by exact ltG hG (by decide)) (Nat.le_of_ble_eq_true rfl) dX12_expression_266 (s_X12_goesOn _ q178_e hG) (fun r1 h1 hq => ?_)
                      obtain ⟨rfl, hq, hG⟩ := hq
                      replace hq := hq.symm
                      subst hq
                      simp only [Option.toList, List.nil_append]
                      refine v_goto 12 dX12_expression_269 (by decide) ?_
                      refine V.weak (la2 := [some (.ref 226), some (.int l1), some (.int 1)]) (by simp [wk]) ?_
                      exact (s_X12_expression_IH_12) _ _ _ _ hF hG
                    · rw [if_neg c173] at hF
                      refine v_iconst (v := 1) dX12_expression_229 (by decide) ?_
                      refine v_goto 234 dX12_expression_230 (by decide) ?_
                      obtain ⟨q180, q180_e, hF⟩ := Option.bind_eq_some_iff.mp hF
                      refine c_X12_318 rfl sh_226 (by exact ltG hG (by decide)) (Nat.le_of_ble_eq_true rfl) dX12_expression_234 (s_X12_comesOut _ q180_e hG) (fun r1 h1 hq => ?_)
                      obtain ⟨rfl, hq, hG⟩ := hq
                      replace hq := hq.symm
                      subst hq
                      simp only [Option.toList, List.nil_append]
                      refine v_aload_n (i := 0) dX12_expression_237 rfl rfl ?_
                      refine g_X12_116 (q := 259) rfl sh_226 (by exact ltG hG (by decide)) (by exact rG hG r0_226_48) dX12_expression_238 ?_
                      refine v_aload_n (i := 0) dX12_expression_241 rfl rfl ?_
                      refine g_X12_309 rfl sh_226 (by exact ltG hG (by decide)) dX12_expression_242 ?_
                      refine v_aload_n (i := 0) dX12_expression_245 rfl rfl ?_
                      refine g_X12_20 (q := 229) rfl sh_226 (by exact ltG hG (by decide)) (by exact rG hG r0_226_5) dX12_expression_246 ?_
                      refine v_aload_n (i := 0) dX12_expression_249 rfl rfl ?_
                      refine g_X12_218 rfl sh_226 (by exact ltG hG (by decide)) dX12_expression_250 ?_
                      obtain ⟨k182, hF⟩ := ck_some hF
                      refine v_iaload sh_229 (by exact ltG hG (by decide)) (ixO k182) dX12_expression_253 ?_
                      obtain ⟨k183, hF⟩ := ck_some hF
                      refine v_iastore sh_259 (by exact ltG hG (by decide)) (ixO k183) dX12_expression_254 ?_
                      refine v_aload_n (i := 0) dX12_expression_255 rfl rfl ?_
                      refine v_dup dX12_expression_256 rfl ?_
                      refine g_X12_309 rfl sh_226 (by exact ltG hG (by decide)) dX12_expression_257 ?_
                      refine v_iconst (v := 1) dX12_expression_260 (by decide) ?_
                      refine v_iadd dX12_expression_261 ?_
                      refine p_X12_309 rfl sh_226 (by exact ltG hG (by decide)) dX12_expression_262 ?_
                      refine v_aload_n (i := 0) dX12_expression_265 rfl rfl ?_
                      obtain ⟨q184, q184_e, hF⟩ := Option.bind_eq_some_iff.mp hF
                      refine c_X12_236 rfl sh_226 (by exact ltG hG (by decide)) (Nat.le_of_ble_eq_true rfl) dX12_expression_266 (s_X12_goesOn _ q184_e hG) (fun r1 h1 hq => ?_)
                      obtain ⟨rfl, hq, hG⟩ := hq
                      replace hq := hq.symm
                      subst hq
                      simp only [Option.toList, List.nil_append]
                      refine v_goto 12 dX12_expression_269 (by decide) ?_
                      refine V.weak (la2 := [some (.ref 226), some (.int l1), some (.int 1)]) (by simp [wk]) ?_
                      exact (s_X12_expression_IH_12) _ _ _ _ hF hG
                · rw [if_pos c161] at hF
                  refine v_aload_n (i := 0) dX12_expression_191 rfl rfl ?_
                  refine g_X12_242 rfl sh_226 (by exact ltG hG (by decide)) dX12_expression_192 ?_
                  refine v_iload_n (i := 1) dX12_expression_195 rfl rfl ?_
                  refine v_icmp_le 204 dX12_expression_196 (by decide) (fun c186 => ?_) (fun c186 => ?_)
                  · rw [if_pos c186] at hF
                    refine v_aload_n (i := 0) dX12_expression_204 rfl rfl ?_
                    refine v_iconst (v := 0) dX12_expression_205 (by decide) ?_
                    obtain ⟨q187, q187_e, hF⟩ := Option.bind_eq_some_iff.mp hF
                    refine c_X12_318 rfl sh_226 (by exact ltG hG (by decide)) (Nat.le_of_ble_eq_true rfl) dX12_expression_206 (s_X12_comesOut _ q187_e hG) (fun r1 h1 hq => ?_)
                    obtain ⟨rfl, hq, hG⟩ := hq
                    replace hq := hq.symm
                    subst hq
                    simp only [Option.toList, List.nil_append]
                    refine v_return rfl dX12_expression_209 ?_
                    obtain rfl := Option.some.inj hF
                    exact ⟨rfl, rfl, hG⟩
                  · rw [if_neg c186] at hF
                    refine v_aload_n (i := 0) dX12_expression_199 rfl rfl ?_
                    refine v_iconst (v := 1) dX12_expression_200 (by decide) ?_
                    obtain ⟨q189, q189_e, hF⟩ := Option.bind_eq_some_iff.mp hF
                    refine c_X12_230 rfl sh_226 (by exact ltG hG (by decide)) (Nat.le_of_ble_eq_true rfl) dX12_expression_201 (s_X12_fail _ q189_e hG) (fun r1 h1 hq => ?_)
                    obtain ⟨rfl, hq, hG⟩ := hq
                    replace hq := hq.symm
                    subst hq
                    simp only [Option.toList, List.nil_append]
                    refine v_aload_n (i := 0) dX12_expression_204 rfl rfl ?_
                    refine v_iconst (v := 0) dX12_expression_205 (by decide) ?_
                    obtain ⟨q191, q191_e, hF⟩ := Option.bind_eq_some_iff.mp hF
                    refine c_X12_318 rfl sh_226 (by exact ltG hG (by decide)) (Nat.le_of_ble_eq_true rfl) dX12_expression_206 (s_X12_comesOut _ q191_e hG) (fun r1 h1 hq => ?_)
                    obtain ⟨rfl, hq, hG⟩ := hq
                    replace hq := hq.symm
                    subst hq
                    simp only [Option.toList, List.nil_append]
                    refine v_return rfl dX12_expression_209 ?_
                    obtain rfl := Option.some.inj hF
                    exact ⟨rfl, rfl, hG⟩
      · rw [if_neg c20] at hF
        refine v_aload_n (i := 0) dX12_expression_105 rfl rfl ?_
        refine g_X12_242 rfl sh_226 (by exact ltG hG (by decide)) dX12_expression_106 ?_
        refine v_iload_n (i := 1) dX12_expression_109 rfl rfl ?_
        refine v_icmp_le 145 dX12_expression_110 (by decide) (fun c193 => ?_) (fun c193 => ?_)
        · rw [if_pos c193] at hF
          refine v_aload_n (i := 0) dX12_expression_145 rfl rfl ?_
          refine v_bipush (v := 8) dX12_expression_146 (by decide) ?_
          obtain ⟨q194, q194_e, hF⟩ := Option.bind_eq_some_iff.mp hF
          refine c_X12_233 rfl sh_226 (by exact ltG hG (by decide)) (Nat.le_of_ble_eq_true rfl) dX12_expression_148 (s_X12_is _ q194_e hG) (fun r1 h1 hq => ?_)
          obtain ⟨rfl, hq, hG⟩ := hq
          replace hq := hq.symm
          subst hq
          show V _ _ _ _ (_ :: _) _ _
          refine v_if_ne 181 dX12_expression_151 (by decide) (fun c196 => ?_) (fun c196 => ?_)
          · rw [if_neg c196] at hF
            refine v_iconst (v := 1) dX12_expression_181 (by decide) ?_
            refine v_goto 186 dX12_expression_182 (by decide) ?_
            refine v_istore_n (i := 2) dX12_expression_186 rfl (by decide) (nlT rfl) ?_
            simp only [List.set_cons_zero, List.set_cons_succ]
            refine v_iload_n (i := 2) dX12_expression_187 rfl rfl ?_
            refine v_if_ne 210 dX12_expression_188 (by decide) (fun c197 => ?_) (fun c197 => ?_)
            · rw [if_neg c197] at hF
              refine v_aload_n (i := 0) dX12_expression_210 rfl rfl ?_
              refine v_aload_n (i := 0) dX12_expression_211 rfl rfl ?_
              refine v_bipush (v := 10) dX12_expression_212 (by decide) ?_
              obtain ⟨q198, q198_e, hF⟩ := Option.bind_eq_some_iff.mp hF
              refine c_X12_233 rfl sh_226 (by exact ltG hG (by decide)) (Nat.le_of_ble_eq_true rfl) dX12_expression_214 (s_X12_is _ q198_e hG) (fun r1 h1 hq => ?_)
              obtain ⟨rfl, hq, hG⟩ := hq
              replace hq := hq.symm
              subst hq
              show V _ _ _ _ (_ :: _) _ _
              refine v_if_ne 229 dX12_expression_217 (by decide) (fun c200 => ?_) (fun c200 => ?_)
              · rw [if_neg c200] at hF
                refine v_iconst (v := 1) dX12_expression_229 (by decide) ?_
                refine v_goto 234 dX12_expression_230 (by decide) ?_
                obtain ⟨q201, q201_e, hF⟩ := Option.bind_eq_some_iff.mp hF
                refine c_X12_318 rfl sh_226 (by exact ltG hG (by decide)) (Nat.le_of_ble_eq_true rfl) dX12_expression_234 (s_X12_comesOut _ q201_e hG) (fun r1 h1 hq => ?_)
                obtain ⟨rfl, hq, hG⟩ := hq
                replace hq := hq.symm
                subst hq
                simp only [Option.toList, List.nil_append]
                refine v_aload_n (i := 0) dX12_expression_237 rfl rfl ?_
                refine g_X12_116 (q := 259) rfl sh_226 (by exact ltG hG (by decide)) (by exact rG hG r0_226_48) dX12_expression_238 ?_
                refine v_aload_n (i := 0) dX12_expression_241 rfl rfl ?_
                refine g_X12_309 rfl sh_226 (by exact ltG hG (by decide)) dX12_expression_242 ?_
                refine v_aload_n (i := 0) dX12_expression_245 rfl rfl ?_
                refine g_X12_20 (q := 229) rfl sh_226 (by exact ltG hG (by decide)) (by exact rG hG r0_226_5) dX12_expression_246 ?_
                refine v_aload_n (i := 0) dX12_expression_249 rfl rfl ?_
                refine g_X12_218 rfl sh_226 (by exact ltG hG (by decide)) dX12_expression_250 ?_
                obtain ⟨k203, hF⟩ := ck_some hF
                refine v_iaload sh_229 (by exact ltG hG (by decide)) (ixO k203) dX12_expression_253 ?_
                obtain ⟨k204, hF⟩ := ck_some hF
                refine v_iastore sh_259 (by exact ltG hG (by decide)) (ixO k204) dX12_expression_254 ?_
                refine v_aload_n (i := 0) dX12_expression_255 rfl rfl ?_
                refine v_dup dX12_expression_256 rfl ?_
                refine g_X12_309 rfl sh_226 (by exact ltG hG (by decide)) dX12_expression_257 ?_
                refine v_iconst (v := 1) dX12_expression_260 (by decide) ?_
                refine v_iadd dX12_expression_261 ?_
                refine p_X12_309 rfl sh_226 (by exact ltG hG (by decide)) dX12_expression_262 ?_
                refine v_aload_n (i := 0) dX12_expression_265 rfl rfl ?_
                obtain ⟨q205, q205_e, hF⟩ := Option.bind_eq_some_iff.mp hF
                refine c_X12_236 rfl sh_226 (by exact ltG hG (by decide)) (Nat.le_of_ble_eq_true rfl) dX12_expression_266 (s_X12_goesOn _ q205_e hG) (fun r1 h1 hq => ?_)
                obtain ⟨rfl, hq, hG⟩ := hq
                replace hq := hq.symm
                subst hq
                simp only [Option.toList, List.nil_append]
                refine v_goto 12 dX12_expression_269 (by decide) ?_
                refine V.weak (la2 := [some (.ref 226), some (.int l1), some (.int 1)]) (by simp [wk]) ?_
                exact (s_X12_expression_IH_12) _ _ _ _ hF hG
              · rw [if_pos c200] at hF
                refine v_aload_n (i := 0) dX12_expression_220 rfl rfl ?_
                refine v_bipush (v := 15) dX12_expression_221 (by decide) ?_
                obtain ⟨q207, q207_e, hF⟩ := Option.bind_eq_some_iff.mp hF
                refine c_X12_233 rfl sh_226 (by exact ltG hG (by decide)) (Nat.le_of_ble_eq_true rfl) dX12_expression_223 (s_X12_is _ q207_e hG) (fun r1 h1 hq => ?_)
                obtain ⟨rfl, hq, hG⟩ := hq
                replace hq := hq.symm
                subst hq
                show V _ _ _ _ (_ :: _) _ _
                refine v_if_eq 233 dX12_expression_226 (by decide) (fun c209 => ?_) (fun c209 => ?_)
                · rw [if_pos c209] at hF
                  refine v_iconst (v := 0) dX12_expression_233 (by decide) ?_
                  obtain ⟨q210, q210_e, hF⟩ := Option.bind_eq_some_iff.mp hF
                  refine c_X12_318 rfl sh_226 (by exact ltG hG (by decide)) (Nat.le_of_ble_eq_true rfl) dX12_expression_234 (s_X12_comesOut _ q210_e hG) (fun r1 h1 hq => ?_)
                  obtain ⟨rfl, hq, hG⟩ := hq
                  replace hq := hq.symm
                  subst hq
                  simp only [Option.toList, List.nil_append]
                  refine v_aload_n (i := 0) dX12_expression_237 rfl rfl ?_
                  refine g_X12_116 (q := 259) rfl sh_226 (by exact ltG hG (by decide)) (by exact rG hG r0_226_48) dX12_expression_238 ?_
                  refine v_aload_n (i := 0) dX12_expression_241 rfl rfl ?_
                  refine g_X12_309 rfl sh_226 (by exact ltG hG (by decide)) dX12_expression_242 ?_
                  refine v_aload_n (i := 0) dX12_expression_245 rfl rfl ?_
                  refine g_X12_20 (q := 229) rfl sh_226 (by exact ltG hG (by decide)) (by exact rG hG r0_226_5) dX12_expression_246 ?_
                  refine v_aload_n (i := 0) dX12_expression_249 rfl rfl ?_
                  refine g_X12_218 rfl sh_226 (by exact ltG hG (by decide)) dX12_expression_250 ?_
                  obtain ⟨k212, hF⟩ := ck_some hF
                  refine v_iaload sh_229 (by exact ltG hG (by decide)) (ixO k212) dX12_expression_253 ?_
                  obtain ⟨k213, hF⟩ := ck_some hF
                  refine v_iastore sh_259 (by exact ltG hG (by decide)) (ixO k213) dX12_expression_254 ?_
                  refine v_aload_n (i := 0) dX12_expression_255 rfl rfl ?_
                  refine v_dup dX12_expression_256 rfl ?_
                  refine g_X12_309 rfl sh_226 (by exact ltG hG (by decide)) dX12_expression_257 ?_
                  refine v_iconst (v := 1) dX12_expression_260 (by decide) ?_
                  refine v_iadd dX12_expression_261 ?_
                  refine p_X12_309 rfl sh_226 (by exact ltG hG (by decide)) dX12_expression_262 ?_
                  refine v_aload_n (i := 0) dX12_expression_265 rfl rfl ?_
                  obtain ⟨q214, q214_e, hF⟩ := Option.bind_eq_some_iff.mp hF
                  refine c_X12_236 rfl sh_226 (by exact ltG hG (by decide)) (Nat.le_of_ble_eq_true rfl) dX12_expression_266 (s_X12_goesOn _ q214_e hG) (fun r1 h1 hq => ?_)
                  obtain ⟨rfl, hq, hG⟩ := hq
                  replace hq := hq.symm
                  subst hq
                  simp only [Option.toList, List.nil_append]
                  refine v_goto 12 dX12_expression_269 (by decide) ?_
                  refine V.weak (la2 := [some (.ref 226), some (.int l1), some (.int 1)]) (by simp [wk]) ?_
                  exact (s_X12_expression_IH_12) _ _ _ _ hF hG
                · rw [if_neg c209] at hF
                  refine v_iconst (v := 1) dX12_expression_229 (by decide) ?_
                  refine v_goto 234 dX12_expression_230 (by decide) ?_
                  obtain ⟨q216, q216_e, hF⟩ := Option.bind_eq_some_iff.mp hF
                  refine c_X12_318 rfl sh_226 (by exact ltG hG (by decide)) (Nat.le_of_ble_eq_true rfl) dX12_expression_234 (s_X12_comesOut _ q216_e hG) (fun r1 h1 hq => ?_)
                  obtain ⟨rfl, hq, hG⟩ := hq
                  replace hq := hq.symm
                  subst hq
                  simp only [Option.toList, List.nil_append]
                  refine v_aload_n (i := 0) dX12_expression_237 rfl rfl ?_
                  refine g_X12_116 (q := 259) rfl sh_226 (by exact ltG hG (by decide)) (by exact rG hG r0_226_48) dX12_expression_238 ?_
                  refine v_aload_n (i := 0) dX12_expression_241 rfl rfl ?_
                  refine g_X12_309 rfl sh_226 (by exact ltG hG (by decide)) dX12_expression_242 ?_
                  refine v_aload_n (i := 0) dX12_expression_245 rfl rfl ?_
                  refine g_X12_20 (q := 229) rfl sh_226 (by exact ltG hG (by decide)) (by exact rG hG r0_226_5) dX12_expression_246 ?_
                  refine v_aload_n (i := 0) dX12_expression_249 rfl rfl ?_
                  refine g_X12_218 rfl sh_226 (by exact ltG hG (by decide)) dX12_expression_250 ?_
                  obtain ⟨k218, hF⟩ := ck_some hF
                  refine v_iaload sh_229 (by exact ltG hG (by decide)) (ixO k218) dX12_expression_253 ?_
                  obtain ⟨k219, hF⟩ := ck_some hF
                  refine v_iastore sh_259 (by exact ltG hG (by decide)) (ixO k219) dX12_expression_254 ?_
                  refine v_aload_n (i := 0) dX12_expression_255 rfl rfl ?_
                  refine v_dup dX12_expression_256 rfl ?_
                  refine g_X12_309 rfl sh_226 (by exact ltG hG (by decide)) dX12_expression_257 ?_
                  refine v_iconst (v := 1) dX12_expression_260 (by decide) ?_
                  refine v_iadd dX12_expression_261 ?_
                  refine p_X12_309 rfl sh_226 (by exact ltG hG (by decide)) dX12_expression_262 ?_
                  refine v_aload_n (i := 0) dX12_expression_265 rfl rfl ?_
                  obtain ⟨q220, q220_e, hF⟩ := Option.bind_eq_some_iff.mp hF
                  refine c_X12_236 rfl sh_226 (by exact ltG hG (by decide)) (Nat.le_of_ble_eq_true rfl) dX12_expression_266 (s_X12_goesOn _ q220_e hG) (fun r1 h1 hq => ?_)
                  obtain ⟨rfl, hq, hG⟩ := hq
                  replace hq := hq.symm
                  subst hq
                  simp only [Option.toList, List.nil_append]
                  refine v_goto 12 dX12_expression_269 (by decide) ?_
                  refine V.weak (la2 := [some (.ref 226), some (.int l1), some (.int 1)]) (by simp [wk]) ?_
                  exact (s_X12_expression_IH_12) _ _ _ _ hF hG
            · rw [if_pos c197] at hF
              refine v_aload_n (i := 0) dX12_expression_191 rfl rfl ?_
              refine g_X12_242 rfl sh_226 (by exact ltG hG (by decide)) dX12_expression_192 ?_
              refine v_iload_n (i := 1) dX12_expression_195 rfl rfl ?_
              refine v_icmp_le 204 dX12_expression_196 (by decide) (fun c222 => ?_) (fun c222 => ?_)
              · rw [if_pos c222] at hF
                refine v_aload_n (i := 0) dX12_expression_204 rfl rfl ?_
                refine v_iconst (v := 0) dX12_expression_205 (by decide) ?_
                obtain ⟨q223, q223_e, hF⟩ := Option.bind_eq_some_iff.mp hF
                refine c_X12_318 rfl sh_226 (by exact ltG hG (by decide)) (Nat.le_of_ble_eq_true rfl) dX12_expression_206 (s_X12_comesOut _ q223_e hG) (fun r1 h1 hq => ?_)
                obtain ⟨rfl, hq, hG⟩ := hq
                replace hq := hq.symm
                subst hq
                simp only [Option.toList, List.nil_append]
                refine v_return rfl dX12_expression_209 ?_
                obtain rfl := Option.some.inj hF
                exact ⟨rfl, rfl, hG⟩
              · rw [if_neg c222] at hF
                refine v_aload_n (i := 0) dX12_expression_199 rfl rfl ?_
                refine v_iconst (v := 1) dX12_expression_200 (by decide) ?_
                obtain ⟨q225, q225_e, hF⟩ := Option.bind_eq_some_iff.mp hF
                refine c_X12_230 rfl sh_226 (by exact ltG hG (by decide)) (Nat.le_of_ble_eq_true rfl) dX12_expression_201 (s_X12_fail _ q225_e hG) (fun r1 h1 hq => ?_)
                obtain ⟨rfl, hq, hG⟩ := hq
                replace hq := hq.symm
                subst hq
                simp only [Option.toList, List.nil_append]
                refine v_aload_n (i := 0) dX12_expression_204 rfl rfl ?_
                refine v_iconst (v := 0) dX12_expression_205 (by decide) ?_
                obtain ⟨q227, q227_e, hF⟩ := Option.bind_eq_some_iff.mp hF
                refine c_X12_318 rfl sh_226 (by exact ltG hG (by decide)) (Nat.le_of_ble_eq_true rfl) dX12_expression_206 (s_X12_comesOut _ q227_e hG) (fun r1 h1 hq => ?_)
                obtain ⟨rfl, hq, hG⟩ := hq
                replace hq := hq.symm
                subst hq
                simp only [Option.toList, List.nil_append]
                refine v_return rfl dX12_expression_209 ?_
                obtain rfl := Option.some.inj hF
                exact ⟨rfl, rfl, hG⟩
          · rw [if_pos c196] at hF
            refine v_aload_n (i := 0) dX12_expression_154 rfl rfl ?_
            refine v_bipush (v := 9) dX12_expression_155 (by decide) ?_
            obtain ⟨q229, q229_e, hF⟩ := Option.bind_eq_some_iff.mp hF
            refine c_X12_233 rfl sh_226 (by exact ltG hG (by decide)) (Nat.le_of_ble_eq_true rfl) dX12_expression_157 (s_X12_is _ q229_e hG) (fun r1 h1 hq => ?_)
            obtain ⟨rfl, hq, hG⟩ := hq
            replace hq := hq.symm
            subst hq
            show V _ _ _ _ (_ :: _) _ _
            refine v_if_ne 181 dX12_expression_160 (by decide) (fun c231 => ?_) (fun c231 => ?_)
            · rw [if_neg c231] at hF
              refine v_iconst (v := 1) dX12_expression_181 (by decide) ?_
              refine v_goto 186 dX12_expression_182 (by decide) ?_
              refine v_istore_n (i := 2) dX12_expression_186 rfl (by decide) (nlT rfl) ?_
              simp only [List.set_cons_zero, List.set_cons_succ]
              refine v_iload_n (i := 2) dX12_expression_187 rfl rfl ?_
              refine v_if_ne 210 dX12_expression_188 (by decide) (fun c232 => ?_) (fun c232 => ?_)
              · rw [if_neg c232] at hF
                refine v_aload_n (i := 0) dX12_expression_210 rfl rfl ?_
                refine v_aload_n (i := 0) dX12_expression_211 rfl rfl ?_
                refine v_bipush (v := 10) dX12_expression_212 (by decide) ?_
                obtain ⟨q233, q233_e, hF⟩ := Option.bind_eq_some_iff.mp hF
                refine c_X12_233 rfl sh_226 (by exact ltG hG (by decide)) (Nat.le_of_ble_eq_true rfl) dX12_expression_214 (s_X12_is _ q233_e hG) (fun r1 h1 hq => ?_)
                obtain ⟨rfl, hq, hG⟩ := hq
                replace hq := hq.symm
                subst hq
                show V _ _ _ _ (_ :: _) _ _
                refine v_if_ne 229 dX12_expression_217 (by decide) (fun c235 => ?_) (fun c235 => ?_)
                · rw [if_neg c235] at hF
                  refine v_iconst (v := 1) dX12_expression_229 (by decide) ?_
                  refine v_goto 234 dX12_expression_230 (by decide) ?_
                  obtain ⟨q236, q236_e, hF⟩ := Option.bind_eq_some_iff.mp hF
                  refine c_X12_318 rfl sh_226 (by exact ltG hG (by decide)) (Nat.le_of_ble_eq_true rfl) dX12_expression_234 (s_X12_comesOut _ q236_e hG) (fun r1 h1 hq => ?_)
                  obtain ⟨rfl, hq, hG⟩ := hq
                  replace hq := hq.symm
                  subst hq
                  simp only [Option.toList, List.nil_append]
                  refine v_aload_n (i := 0) dX12_expression_237 rfl rfl ?_
                  refine g_X12_116 (q := 259) rfl sh_226 (by exact ltG hG (by decide)) (by exact rG hG r0_226_48) dX12_expression_238 ?_
                  refine v_aload_n (i := 0) dX12_expression_241 rfl rfl ?_
                  refine g_X12_309 rfl sh_226 (by exact ltG hG (by decide)) dX12_expression_242 ?_
                  refine v_aload_n (i := 0) dX12_expression_245 rfl rfl ?_
                  refine g_X12_20 (q := 229) rfl sh_226 (by exact ltG hG (by decide)) (by exact rG hG r0_226_5) dX12_expression_246 ?_
                  refine v_aload_n (i := 0) dX12_expression_249 rfl rfl ?_
                  refine g_X12_218 rfl sh_226 (by exact ltG hG (by decide)) dX12_expression_250 ?_
                  obtain ⟨k238, hF⟩ := ck_some hF
                  refine v_iaload sh_229 (by exact ltG hG (by decide)) (ixO k238) dX12_expression_253 ?_
                  obtain ⟨k239, hF⟩ := ck_some hF
                  refine v_iastore sh_259 (by exact ltG hG (by decide)) (ixO k239) dX12_expression_254 ?_
                  refine v_aload_n (i := 0) dX12_expression_255 rfl rfl ?_
                  refine v_dup dX12_expression_256 rfl ?_
                  refine g_X12_309 rfl sh_226 (by exact ltG hG (by decide)) dX12_expression_257 ?_
                  refine v_iconst (v := 1) dX12_expression_260 (by decide) ?_
                  refine v_iadd dX12_expression_261 ?_
                  refine p_X12_309 rfl sh_226 (by exact ltG hG (by decide)) dX12_expression_262 ?_
                  refine v_aload_n (i := 0) dX12_expression_265 rfl rfl ?_
                  obtain ⟨q240, q240_e, hF⟩ := Option.bind_eq_some_iff.mp hF
                  refine c_X12_236 rfl sh_226 (by exact ltG hG (by decide)) (Nat.le_of_ble_eq_true rfl) dX12_expression_266 (s_X12_goesOn _ q240_e hG) (fun r1 h1 hq => ?_)
                  obtain ⟨rfl, hq, hG⟩ := hq
                  replace hq := hq.symm
                  subst hq
                  simp only [Option.toList, List.nil_append]
                  refine v_goto 12 dX12_expression_269 (by decide) ?_
                  refine V.weak (la2 := [some (.ref 226), some (.int l1), some (.int 1)]) (by simp [wk]) ?_
                  exact (s_X12_expression_IH_12) _ _ _ _ hF hG
                · rw [if_pos c235] at hF
                  refine v_aload_n (i := 0) dX12_expression_220 rfl rfl ?_
                  refine v_bipush (v := 15) dX12_expression_221 (by decide) ?_
                  obtain ⟨q242, q242_e, hF⟩ := Option.bind_eq_some_iff.mp hF
                  refine c_X12_233 rfl sh_226 (by exact ltG hG (by decide)) (Nat.le_of_ble_eq_true rfl) dX12_expression_223 (s_X12_is _ q242_e hG) (fun r1 h1 hq => ?_)
                  obtain ⟨rfl, hq, hG⟩ := hq
                  replace hq := hq.symm
                  subst hq
                  show V _ _ _ _ (_ :: _) _ _
                  refine v_if_eq 233 dX12_expression_226 (by decide) (fun c244 => ?_) (fun c244 => ?_)
                  · rw [if_pos c244] at hF
                    refine v_iconst (v := 0) dX12_expression_233 (by decide) ?_
                    obtain ⟨q245, q245_e, hF⟩ := Option.bind_eq_some_iff.mp hF
                    refine c_X12_318 rfl sh_226 (by exact ltG hG (by decide)) (Nat.le_of_ble_eq_true rfl) dX12_expression_234 (s_X12_comesOut _ q245_e hG) (fun r1 h1 hq => ?_)
                    obtain ⟨rfl, hq, hG⟩ := hq
                    replace hq := hq.symm
                    subst hq
                    simp only [Option.toList, List.nil_append]
                    refine v_aload_n (i := 0) dX12_expression_237 rfl rfl ?_
                    refine g_X12_116 (q := 259) rfl sh_226 (by exact ltG hG (by decide)) (by exact rG hG r0_226_48) dX12_expression_238 ?_
                    refine v_aload_n (i := 0) dX12_expression_241 rfl rfl ?_
                    refine g_X12_309 rfl sh_226 (by exact ltG hG (by decide)) dX12_expression_242 ?_
                    refine v_aload_n (i := 0) dX12_expression_245 rfl rfl ?_
                    refine g_X12_20 (q := 229) rfl sh_226 (by exact ltG hG (by decide)) (by exact rG hG r0_226_5) dX12_expression_246 ?_
                    refine v_aload_n (i := 0) dX12_expression_249 rfl rfl ?_
                    refine g_X12_218 rfl sh_226 (by exact ltG hG (by decide)) dX12_expression_250 ?_
                    obtain ⟨k247, hF⟩ := ck_some hF
                    refine v_iaload sh_229 (by exact ltG hG (by decide)) (ixO k247) dX12_expression_253 ?_
                    obtain ⟨k248, hF⟩ := ck_some hF
                    refine v_iastore sh_259 (by exact ltG hG (by decide)) (ixO k248) dX12_expression_254 ?_
                    refine v_aload_n (i := 0) dX12_expression_255 rfl rfl ?_
                    refine v_dup dX12_expression_256 rfl ?_
                    refine g_X12_309 rfl sh_226 (by exact ltG hG (by decide)) dX12_expression_257 ?_
                    refine v_iconst (v := 1) dX12_expression_260 (by decide) ?_
                    refine v_iadd dX12_expression_261 ?_
                    refine p_X12_309 rfl sh_226 (by exact ltG hG (by decide)) dX12_expression_262 ?_
                    refine v_aload_n (i := 0) dX12_expression_265 rfl rfl ?_
                    obtain ⟨q249, q249_e, hF⟩ := Option.bind_eq_some_iff.mp hF
                    refine c_X12_236 rfl sh_226 (by exact ltG hG (by decide)) (Nat.le_of_ble_eq_true rfl) dX12_expression_266 (s_X12_goesOn _ q249_e hG) (fun r1 h1 hq => ?_)
                    obtain ⟨rfl, hq, hG⟩ := hq
                    replace hq := hq.symm
                    subst hq
                    simp only [Option.toList, List.nil_append]
                    refine v_goto 12 dX12_expression_269 (by decide) ?_
                    refine V.weak (la2 := [some (.ref 226), some (.int l1), some (.int 1)]) (by simp [wk]) ?_
                    exact (s_X12_expression_IH_12) _ _ _ _ hF hG
                  · rw [if_neg c244] at hF
                    refine v_iconst (v := 1) dX12_expression_229 (by decide) ?_
                    refine v_goto 234 dX12_expression_230 (by decide) ?_
                    obtain ⟨q251, q251_e, hF⟩ := Option.bind_eq_some_iff.mp hF
                    refine c_X12_318 rfl sh_226 (by exact ltG hG (by decide)) (Nat.le_of_ble_eq_true rfl) dX12_expression_234 (s_X12_comesOut _ q251_e hG) (fun r1 h1 hq => ?_)
                    obtain ⟨rfl, hq, hG⟩ := hq
                    replace hq := hq.symm
                    subst hq
                    simp only [Option.toList, List.nil_append]
                    refine v_aload_n (i := 0) dX12_expression_237 rfl rfl ?_
                    refine g_X12_116 (q := 259) rfl sh_226 (by exact ltG hG (by decide)) (by exact rG hG r0_226_48) dX12_expression_238 ?_
                    refine v_aload_n (i := 0) dX12_expression_241 rfl rfl ?_
                    refine g_X12_309 rfl sh_226 (by exact ltG hG (by decide)) dX12_expression_242 ?_
                    refine v_aload_n (i := 0) dX12_expression_245 rfl rfl ?_
                    refine g_X12_20 (q := 229) rfl sh_226 (by exact ltG hG (by decide)) (by exact rG hG r0_226_5) dX12_expression_246 ?_
                    refine v_aload_n (i := 0) dX12_expression_249 rfl rfl ?_
                    refine g_X12_218 rfl sh_226 (by exact ltG hG (by decide)) dX12_expression_250 ?_
                    obtain ⟨k253, hF⟩ := ck_some hF
                    refine v_iaload sh_229 (by exact ltG hG (by decide)) (ixO k253) dX12_expression_253 ?_
                    obtain ⟨k254, hF⟩ := ck_some hF
                    refine v_iastore sh_259 (by exact ltG hG (by decide)) (ixO k254) dX12_expression_254 ?_
                    refine v_aload_n (i := 0) dX12_expression_255 rfl rfl ?_
                    refine v_dup dX12_expression_256 rfl ?_
                    refine g_X12_309 rfl sh_226 (by exact ltG hG (by decide)) dX12_expression_257 ?_
                    refine v_iconst (v := 1) dX12_expression_260 (by decide) ?_
                    refine v_iadd dX12_expression_261 ?_
                    refine p_X12_309 rfl sh_226 (by exact ltG hG (by decide)) dX12_expression_262 ?_
                    refine v_aload_n (i := 0) dX12_expression_265 rfl rfl ?_
                    obtain ⟨q255, q255_e, hF⟩ := Option.bind_eq_some_iff.mp hF
                    refine c_X12_236 rfl sh_226 (by exact ltG hG (by decide)) (Nat.le_of_ble_eq_true rfl) dX12_expression_266 (s_X12_goesOn _ q255_e hG) (fun r1 h1 hq => ?_)
                    obtain ⟨rfl, hq, hG⟩ := hq
                    replace hq := hq.symm
                    subst hq
                    simp only [Option.toList, List.nil_append]
                    refine v_goto 12 dX12_expression_269 (by decide) ?_
                    refine V.weak (la2 := [some (.ref 226), some (.int l1), some (.int 1)]) (by simp [wk]) ?_
                    exact (s_X12_expression_IH_12) _ _ _ _ hF hG
              · rw [if_pos c232] at hF
                refine v_aload_n (i := 0) dX12_expression_191 rfl rfl ?_
                refine g_X12_242 rfl sh_226 (by exact ltG hG (by decide)) dX12_expression_192 ?_
                refine v_iload_n (i := 1) dX12_expression_195 rfl rfl ?_
                refine v_icmp_le 204 dX12_expression_196 (by decide) (fun c257 => ?_) (fun c257 => ?_)
                · rw [if_pos c257] at hF
                  refine v_aload_n (i := 0) dX12_expression_204 rfl rfl ?_
                  refine v_iconst (v := 0) dX12_expression_205 (by decide) ?_
                  obtain ⟨q258, q258_e, hF⟩ := Option.bind_eq_some_iff.mp hF
                  refine c_X12_318 rfl sh_226 (by exact ltG hG (by decide)) (Nat.le_of_ble_eq_true rfl) dX12_expression_206 (s_X12_comesOut _ q258_e hG) (fun r1 h1 hq => ?_)
                  obtain ⟨rfl, hq, hG⟩ := hq
                  replace hq := hq.symm
                  subst hq
                  simp only [Option.toList, List.nil_append]
                  refine v_return rfl dX12_expression_209 ?_
                  obtain rfl := Option.some.inj hF
                  exact ⟨rfl, rfl, hG⟩
                · rw [if_neg c257] at hF
                  refine v_aload_n (i := 0) dX12_expression_199 rfl rfl ?_
                  refine v_iconst (v := 1) dX12_expression_200 (by decide) ?_
                  obtain ⟨q260, q260_e, hF⟩ := Option.bind_eq_some_iff.mp hF
                  refine c_X12_230 rfl sh_226 (by exact ltG hG (by decide)) (Nat.le_of_ble_eq_true rfl) dX12_expression_201 (s_X12_fail _ q260_e hG) (fun r1 h1 hq => ?_)
                  obtain ⟨rfl, hq, hG⟩ := hq
                  replace hq := hq.symm
                  subst hq
                  simp only [Option.toList, List.nil_append]
                  refine v_aload_n (i := 0) dX12_expression_204 rfl rfl ?_
                  refine v_iconst (v := 0) dX12_expression_205 (by decide) ?_
                  obtain ⟨q262, q262_e, hF⟩ := Option.bind_eq_some_iff.mp hF
                  refine c_X12_318 rfl sh_226 (by exact ltG hG (by decide)) (Nat.le_of_ble_eq_true rfl) dX12_expression_206 (s_X12_comesOut _ q262_e hG) (fun r1 h1 hq => ?_)
                  obtain ⟨rfl, hq, hG⟩ := hq
                  replace hq := hq.symm
                  subst hq
                  simp only [Option.toList, List.nil_append]
                  refine v_return rfl dX12_expression_209 ?_
                  obtain rfl := Option.some.inj hF
                  exact ⟨rfl, rfl, hG⟩
            · rw [if_pos c231] at hF
              refine v_aload_n (i := 0) dX12_expression_163 rfl rfl ?_
              refine v_bipush (v := 10) dX12_expression_164 (by decide) ?_
              obtain ⟨q264, q264_e, hF⟩ := Option.bind_eq_some_iff.mp hF
              refine c_X12_233 rfl sh_226 (by exact ltG hG (by decide)) (Nat.le_of_ble_eq_true rfl) dX12_expression_166 (s_X12_is _ q264_e hG) (fun r1 h1 hq => ?_)
              obtain ⟨rfl, hq, hG⟩ := hq
              replace hq := hq.symm
              subst hq
              show V _ _ _ _ (_ :: _) _ _
              refine v_if_ne 181 dX12_expression_169 (by decide) (fun c266 => ?_) (fun c266 => ?_)
              · rw [if_neg c266] at hF
                refine v_iconst (v := 1) dX12_expression_181 (by decide) ?_
                refine v_goto 186 dX12_expression_182 (by decide) ?_
                refine v_istore_n (i := 2) dX12_expression_186 rfl (by decide) (nlT rfl) ?_
                simp only [List.set_cons_zero, List.set_cons_succ]
                refine v_iload_n (i := 2) dX12_expression_187 rfl rfl ?_
                refine v_if_ne 210 dX12_expression_188 (by decide) (fun c267 => ?_) (fun c267 => ?_)
                · rw [if_neg c267] at hF
                  refine v_aload_n (i := 0) dX12_expression_210 rfl rfl ?_
                  refine v_aload_n (i := 0) dX12_expression_211 rfl rfl ?_
                  refine v_bipush (v := 10) dX12_expression_212 (by decide) ?_
                  obtain ⟨q268, q268_e, hF⟩ := Option.bind_eq_some_iff.mp hF
                  refine c_X12_233 rfl sh_226 (by exact ltG hG (by decide)) (Nat.le_of_ble_eq_true rfl) dX12_expression_214 (s_X12_is _ q268_e hG) (fun r1 h1 hq => ?_)
                  obtain ⟨rfl, hq, hG⟩ := hq
                  replace hq := hq.symm
                  subst hq
                  show V _ _ _ _ (_ :: _) _ _
                  refine v_if_ne 229 dX12_expression_217 (by decide) (fun c270 => ?_) (fun c270 => ?_)
                  · rw [if_neg c270] at hF
                    refine v_iconst (v := 1) dX12_expression_229 (by decide) ?_
                    refine v_goto 234 dX12_expression_230 (by decide) ?_
                    obtain ⟨q271, q271_e, hF⟩ := Option.bind_eq_some_iff.mp hF
                    refine c_X12_318 rfl sh_226 (by exact ltG hG (by decide)) (Nat.le_of_ble_eq_true rfl) dX12_expression_234 (s_X12_comesOut _ q271_e hG) (fun r1 h1 hq => ?_)
                    obtain ⟨rfl, hq, hG⟩ := hq
                    replace hq := hq.symm
                    subst hq
                    simp only [Option.toList, List.nil_append]
                    refine v_aload_n (i := 0) dX12_expression_237 rfl rfl ?_
                    refine g_X12_116 (q := 259) rfl sh_226 (by exact ltG hG (by decide)) (by exact rG hG r0_226_48) dX12_expression_238 ?_
                    refine v_aload_n (i := 0) dX12_expression_241 rfl rfl ?_
                    refine g_X12_309 rfl sh_226 (by exact ltG hG (by decide)) dX12_expression_242 ?_
                    refine v_aload_n (i := 0) dX12_expression_245 rfl rfl ?_
                    refine g_X12_20 (q := 229) rfl sh_226 (by exact ltG hG (by decide)) (by exact rG hG r0_226_5) dX12_expression_246 ?_
                    refine v_aload_n (i := 0) dX12_expression_249 rfl rfl ?_
                    refine g_X12_218 rfl sh_226 (by exact ltG hG (by decide)) dX12_expression_250 ?_
                    obtain ⟨k273, hF⟩ := ck_some hF
                    refine v_iaload sh_229 (by exact ltG hG (by decide)) (ixO k273) dX12_expression_253 ?_
                    obtain ⟨k274, hF⟩ := ck_some hF
                    refine v_iastore sh_259 (by exact ltG hG (by decide)) (ixO k274) dX12_expression_254 ?_
                    refine v_aload_n (i := 0) dX12_expression_255 rfl rfl ?_
                    refine v_dup dX12_expression_256 rfl ?_
                    refine g_X12_309 rfl sh_226 (by exact ltG hG (by decide)) dX12_expression_257 ?_
                    refine v_iconst (v := 1) dX12_expression_260 (by decide) ?_
                    refine v_iadd dX12_expression_261 ?_
                    refine p_X12_309 rfl sh_226 (by exact ltG hG (by decide)) dX12_expression_262 ?_
                    refine v_aload_n (i := 0) dX12_expression_265 rfl rfl ?_
                    obtain ⟨q275, q275_e, hF⟩ := Option.bind_eq_some_iff.mp hF
                    refine c_X12_236 rfl sh_226 (by exact ltG hG (by decide)) (Nat.le_of_ble_eq_true rfl) dX12_expression_266 (s_X12_goesOn _ q275_e hG) (fun r1 h1 hq => ?_)
                    obtain ⟨rfl, hq, hG⟩ := hq
                    replace hq := hq.symm
                    subst hq
                    simp only [Option.toList, List.nil_append]
                    refine v_goto 12 dX12_expression_269 (by decide) ?_
                    refine V.weak (la2 := [some (.ref 226), some (.int l1), some (.int 1)]) (by simp [wk]) ?_
                    exact (s_X12_expression_IH_12) _ _ _ _ hF hG
                  · rw [if_pos c270] at hF
                    refine v_aload_n (i := 0) dX12_expression_220 rfl rfl ?_
                    refine v_bipush (v := 15) dX12_expression_221 (by decide) ?_
                    obtain ⟨q277, q277_e, hF⟩ := Option.bind_eq_some_iff.mp hF
                    refine c_X12_233 rfl sh_226 (by exact ltG hG (by decide)) (Nat.le_of_ble_eq_true rfl) dX12_expression_223 (s_X12_is _ q277_e hG) (fun r1 h1 hq => ?_)
                    obtain ⟨rfl, hq, hG⟩ := hq
                    replace hq := hq.symm
                    subst hq
                    show V _ _ _ _ (_ :: _) _ _
                    refine v_if_eq 233 dX12_expression_226 (by decide) (fun c279 => ?_) (fun c279 => ?_)
                    · rw [if_pos c279] at hF
                      refine v_iconst (v := 0) dX12_expression_233 (by decide) ?_
                      obtain ⟨q280, q280_e, hF⟩ := Option.bind_eq_some_iff.mp hF
                      refine c_X12_318 rfl sh_226 (by exact ltG hG (by decide)) (Nat.le_of_ble_eq_true rfl) dX12_expression_234 (s_X12_comesOut _ q280_e hG) (fun r1 h1 hq => ?_)
                      obtain ⟨rfl, hq, hG⟩ := hq
                      replace hq := hq.symm
                      subst hq
                      simp only [Option.toList, List.nil_append]
                      refine v_aload_n (i := 0) dX12_expression_237 rfl rfl ?_
                      refine g_X12_116 (q := 259) rfl sh_226 (by exact ltG hG (by decide)) (by exact rG hG r0_226_48) dX12_expression_238 ?_
                      refine v_aload_n (i := 0) dX12_expression_241 rfl rfl ?_
                      refine g_X12_309 rfl sh_226 (by exact ltG hG (by decide)) dX12_expression_242 ?_
                      refine v_aload_n (i := 0) dX12_expression_245 rfl rfl ?_
                      refine g_X12_20 (q := 229) rfl sh_226 (by exact ltG hG (by decide)) (by exact rG hG r0_226_5) dX12_expression_246 ?_
                      refine v_aload_n (i := 0) dX12_expression_249 rfl rfl ?_
                      refine g_X12_218 rfl sh_226 (by exact ltG hG (by decide)) dX12_expression_250 ?_
                      obtain ⟨k282, hF⟩ := ck_some hF
                      refine v_iaload sh_229 (by exact ltG hG (by decide)) (ixO k282) dX12_expression_253 ?_
                      obtain ⟨k283, hF⟩ := ck_some hF
                      refine v_iastore sh_259 (by exact ltG hG (by decide)) (ixO k283) dX12_expression_254 ?_
                      refine v_aload_n (i := 0) dX12_expression_255 rfl rfl ?_
                      refine v_dup dX12_expression_256 rfl ?_
                      refine g_X12_309 rfl sh_226 (by exact ltG hG (by decide)) dX12_expression_257 ?_
                      refine v_iconst (v := 1) dX12_expression_260 (by decide) ?_
                      refine v_iadd dX12_expression_261 ?_
                      refine p_X12_309 rfl sh_226 (by exact ltG hG (by decide)) dX12_expression_262 ?_
                      refine v_aload_n (i := 0) dX12_expression_265 rfl rfl ?_
                      obtain ⟨q284, q284_e, hF⟩ := Option.bind_eq_some_iff.mp hF
                      refine c_X12_236 rfl sh_226 (by exact ltG hG (by decide)) (Nat.le_of_ble_eq_true rfl) dX12_expression_266 (s_X12_goesOn _ q284_e hG) (fun r1 h1 hq => ?_)
                      obtain ⟨rfl, hq, hG⟩ := hq
                      replace hq := hq.symm
                      subst hq
                      simp only [Option.toList, List.nil_append]
                      refine v_goto 12 dX12_expression_269 (by decide) ?_
                      refine V.weak (la2 := [some (.ref 226), some (.int l1), some (.int 1)]) (by simp [wk]) ?_
                      exact (s_X12_expression_IH_12) _ _ _ _ hF hG
                    · rw [if_neg c279] at hF
                      refine v_iconst (v := 1) dX12_expression_229 (by decide) ?_
                      refine v_goto 234 dX12_expression_230 (by decide) ?_
                      obtain ⟨q286, q286_e, hF⟩ := Option.bind_eq_some_iff.mp hF
                      refine c_X12_318 rfl sh_226 (by exact ltG hG (by decide)) (Nat.le_of_ble_eq_true rfl) dX12_expression_234 (s_X12_comesOut _ q286_e hG) (fun r1 h1 hq => ?_)
                      obtain ⟨rfl, hq, hG⟩ := hq
                      replace hq := hq.symm
                      subst hq
                      simp only [Option.toList, List.nil_append]
                      refine v_aload_n (i := 0) dX12_expression_237 rfl rfl ?_
                      refine g_X12_116 (q := 259) rfl sh_226 (by exact ltG hG (by decide)) (by exact rG hG r0_226_48) dX12_expression_238 ?_
                      refine v_aload_n (i := 0) dX12_expression_241 rfl rfl ?_
                      refine g_X12_309 rfl sh_226 (by exact ltG hG (by decide)) dX12_expression_242 ?_
                      refine v_aload_n (i := 0) dX12_expression_245 rfl rfl ?_
                      refine g_X12_20 (q := 229) rfl sh_226 (by exact ltG hG (by decide)) (by exact rG hG r0_226_5) dX12_expression_246 ?_
                      refine v_aload_n (i := 0) dX12_expression_249 rfl rfl ?_
                      refine g_X12_218 rfl sh_226 (by exact ltG hG (by decide)) dX12_expression_250 ?_
                      obtain ⟨k288, hF⟩ := ck_some hF
                      refine v_iaload sh_229 (by exact ltG hG (by decide)) (ixO k288) dX12_expression_253 ?_
                      obtain ⟨k289, hF⟩ := ck_some hF
                      refine v_iastore sh_259 (by exact ltG hG (by decide)) (ixO k289) dX12_expression_254 ?_
                      refine v_aload_n (i := 0) dX12_expression_255 rfl rfl ?_
                      refine v_dup dX12_expression_256 rfl ?_
                      refine g_X12_309 rfl sh_226 (by exact ltG hG (by decide)) dX12_expression_257 ?_
                      refine v_iconst (v := 1) dX12_expression_260 (by decide) ?_
                      refine v_iadd dX12_expression_261 ?_
                      refine p_X12_309 rfl sh_226 (by exact ltG hG (by decide)) dX12_expression_262 ?_
                      refine v_aload_n (i := 0) dX12_expression_265 rfl rfl ?_
                      obtain ⟨q290, q290_e, hF⟩ := Option.bind_eq_some_iff.mp hF
                      refine c_X12_236 rfl sh_226 (by exact ltG hG (by decide)) (Nat.le_of_ble_eq_true rfl) dX12_expression_266 (s_X12_goesOn _ q290_e hG) (fun r1 h1 hq => ?_)
                      obtain ⟨rfl, hq, hG⟩ := hq
                      replace hq := hq.symm
                      subst hq
                      simp only [Option.toList, List.nil_append]
                      refine v_goto 12 dX12_expression_269 (by decide) ?_
                      refine V.weak (la2 := [some (.ref 226), some (.int l1), some (.int 1)]) (by simp [wk]) ?_
                      exact (s_X12_expression_IH_12) _ _ _ _ hF hG
                · rw [if_pos c267] at hF
                  refine v_aload_n (i := 0) dX12_expression_191 rfl rfl ?_
                  refine g_X12_242 rfl sh_226 (by exact ltG hG (by decide)) dX12_expression_192 ?_
                  refine v_iload_n (i := 1) dX12_expression_195 rfl rfl ?_
                  refine v_icmp_le 204 dX12_expression_196 (by decide) (fun c292 => ?_) (fun c292 => ?_)
                  · rw [if_pos c292] at hF
                    refine v_aload_n (i := 0) dX12_expression_204 rfl rfl ?_
                    refine v_iconst (v := 0) dX12_expression_205 (by decide) ?_
                    obtain ⟨q293, q293_e, hF⟩ := Option.bind_eq_some_iff.mp hF
                    refine c_X12_318 rfl sh_226 (by exact ltG hG (by decide)) (Nat.le_of_ble_eq_true rfl) dX12_expression_206 (s_X12_comesOut _ q293_e hG) (fun r1 h1 hq => ?_)
                    obtain ⟨rfl, hq, hG⟩ := hq
                    replace hq := hq.symm
                    subst hq
                    simp only [Option.toList, List.nil_append]
                    refine v_return rfl dX12_expression_209 ?_
                    obtain rfl := Option.some.inj hF
                    exact ⟨rfl, rfl, hG⟩
                  · rw [if_neg c292] at hF
                    refine v_aload_n (i := 0) dX12_expression_199 rfl rfl ?_
                    refine v_iconst (v := 1) dX12_expression_200 (by decide) ?_
                    obtain ⟨q295, q295_e, hF⟩ := Option.bind_eq_some_iff.mp hF
                    refine c_X12_230 rfl sh_226 (by exact ltG hG (by decide)) (Nat.le_of_ble_eq_true rfl) dX12_expression_201 (s_X12_fail _ q295_e hG) (fun r1 h1 hq => ?_)
                    obtain ⟨rfl, hq, hG⟩ := hq
                    replace hq := hq.symm
                    subst hq
                    simp only [Option.toList, List.nil_append]
                    refine v_aload_n (i := 0) dX12_expression_204 rfl rfl ?_
                    refine v_iconst (v := 0) dX12_expression_205 (by decide) ?_
                    obtain ⟨q297, q297_e, hF⟩ := Option.bind_eq_some_iff.mp hF
                    refine c_X12_318 rfl sh_226 (by exact ltG hG (by decide)) (Nat.le_of_ble_eq_true rfl) dX12_expression_206 (s_X12_comesOut _ q297_e hG) (fun r1 h1 hq => ?_)
                    obtain ⟨rfl, hq, hG⟩ := hq
                    replace hq := hq.symm
                    subst hq
                    simp only [Option.toList, List.nil_append]
                    refine v_return rfl dX12_expression_209 ?_
                    obtain rfl := Option.some.inj hF
                    exact ⟨rfl, rfl, hG⟩
              · rw [if_pos c266] at hF
                refine v_aload_n (i := 0) dX12_expression_172 rfl rfl ?_
                refine v_bipush (v := 15) dX12_expression_173 (by decide) ?_
                obtain ⟨q299, q299_e, hF⟩ := Option.bind_eq_some_iff.mp hF
                refine c_X12_233 rfl sh_226 (by exact ltG hG (by decide)) (Nat.le_of_ble_eq_true rfl) dX12_expression_175 (s_X12_is _ q299_e hG) (fun r1 h1 hq => ?_)
                obtain ⟨rfl, hq, hG⟩ := hq
                replace hq := hq.symm
                subst hq
                show V _ _ _ _ (_ :: _) _ _
                refine v_if_eq 185 dX12_expression_178 (by decide) (fun c301 => ?_) (fun c301 => ?_)
                · rw [if_pos c301] at hF
                  refine v_iconst (v := 0) dX12_expression_185 (by decide) ?_
                  refine v_istore_n (i := 2) dX12_expression_186 rfl (by decide) (nlT rfl) ?_
                  simp only [List.set_cons_zero, List.set_cons_succ]
                  refine v_iload_n (i := 2) dX12_expression_187 rfl rfl ?_
                  refine v_if_ne 210 dX12_expression_188 (by decide) (fun c302 => ?_) (fun c302 => ?_)
                  · rw [if_neg c302] at hF
                    refine v_aload_n (i := 0) dX12_expression_210 rfl rfl ?_
                    refine v_aload_n (i := 0) dX12_expression_211 rfl rfl ?_
                    refine v_bipush (v := 10) dX12_expression_212 (by decide) ?_
                    obtain ⟨q303, q303_e, hF⟩ := Option.bind_eq_some_iff.mp hF
                    refine c_X12_233 rfl sh_226 (by exact ltG hG (by decide)) (Nat.le_of_ble_eq_true rfl) dX12_expression_214 (s_X12_is _ q303_e hG) (fun r1 h1 hq => ?_)
                    obtain ⟨rfl, hq, hG⟩ := hq
                    replace hq := hq.symm
                    subst hq
                    show V _ _ _ _ (_ :: _) _ _
                    refine v_if_ne 229 dX12_expression_217 (by decide) (fun c305 => ?_) (fun c305 => ?_)
                    · rw [if_neg c305] at hF
                      refine v_iconst (v := 1) dX12_expression_229 (by decide) ?_
                      refine v_goto 234 dX12_expression_230 (by decide) ?_
                      obtain ⟨q306, q306_e, hF⟩ := Option.bind_eq_some_iff.mp hF
                      refine c_X12_318 rfl sh_226 (by exact ltG hG (by decide)) (Nat.le_of_ble_eq_true rfl) dX12_expression_234 (s_X12_comesOut _ q306_e hG) (fun r1 h1 hq => ?_)
                      obtain ⟨rfl, hq, hG⟩ := hq
                      replace hq := hq.symm
                      subst hq
                      simp only [Option.toList, List.nil_append]
                      refine v_aload_n (i := 0) dX12_expression_237 rfl rfl ?_
                      refine g_X12_116 (q := 259) rfl sh_226 (by exact ltG hG (by decide)) (by exact rG hG r0_226_48) dX12_expression_238 ?_
                      refine v_aload_n (i := 0) dX12_expression_241 rfl rfl ?_
                      refine g_X12_309 rfl sh_226 (by exact ltG hG (by decide)) dX12_expression_242 ?_
                      refine v_aload_n (i := 0) dX12_expression_245 rfl rfl ?_
                      refine g_X12_20 (q := 229) rfl sh_226 (by exact ltG hG (by decide)) (by exact rG hG r0_226_5) dX12_expression_246 ?_
                      refine v_aload_n (i := 0) dX12_expression_249 rfl rfl ?_
                      refine g_X12_218 rfl sh_226 (by exact ltG hG (by decide)) dX12_expression_250 ?_
                      obtain ⟨k308, hF⟩ := ck_some hF
                      refine v_iaload sh_229 (by exact ltG hG (by decide)) (ixO k308) dX12_expression_253 ?_
                      obtain ⟨k309, hF⟩ := ck_some hF
                      refine v_iastore sh_259 (by exact ltG hG (by decide)) (ixO k309) dX12_expression_254 ?_
                      refine v_aload_n (i := 0) dX12_expression_255 rfl rfl ?_
                      refine v_dup dX12_expression_256 rfl ?_
                      refine g_X12_309 rfl sh_226 (by exact ltG hG (by decide)) dX12_expression_257 ?_
                      refine v_iconst (v := 1) dX12_expression_260 (by decide) ?_
                      refine v_iadd dX12_expression_261 ?_
                      refine p_X12_309 rfl sh_226 (by exact ltG hG (by decide)) dX12_expression_262 ?_
                      refine v_aload_n (i := 0) dX12_expression_265 rfl rfl ?_
                      obtain ⟨q310, q310_e, hF⟩ := Option.bind_eq_some_iff.mp hF
                      refine c_X12_236 rfl sh_226 (by exact ltG hG (by decide)) (Nat.le_of_ble_eq_true rfl) dX12_expression_266 (s_X12_goesOn _ q310_e hG) (fun r1 h1 hq => ?_)
                      obtain ⟨rfl, hq, hG⟩ := hq
                      replace hq := hq.symm
                      subst hq
                      simp only [Option.toList, List.nil_append]
                      refine v_goto 12 dX12_expression_269 (by decide) ?_
                      refine V.weak (la2 := [some (.ref 226), some (.int l1), some (.int 0)]) (by simp [wk]) ?_
                      exact (s_X12_expression_IH_12) _ _ _ _ hF hG
                    · rw [if_pos c305] at hF
                      refine v_aload_n (i := 0) dX12_expression_220 rfl rfl ?_
                      refine v_bipush (v := 15) dX12_expression_221 (by decide) ?_
                      obtain ⟨q312, q312_e, hF⟩ := Option.bind_eq_some_iff.mp hF
                      refine c_X12_233 rfl sh_226 (by exact ltG hG (by decide)) (Nat.le_of_ble_eq_true rfl) dX12_expression_223 (s_X12_is _ q312_e hG) (fun r1 h1 hq => ?_)
                      obtain ⟨rfl, hq, hG⟩ := hq
                      replace hq := hq.symm
                      subst hq
                      show V _ _ _ _ (_ :: _) _ _
                      refine v_if_eq 233 dX12_expression_226 (by decide) (fun c314 => ?_) (fun c314 => ?_)
                      · rw [if_pos c314] at hF
                        refine v_iconst (v := 0) dX12_expression_233 (by decide) ?_
                        obtain ⟨q315, q315_e, hF⟩ := Option.bind_eq_some_iff.mp hF
                        refine c_X12_318 rfl sh_226 (by exact ltG hG (by decide)) (Nat.le_of_ble_eq_true rfl) dX12_expression_234 (s_X12_comesOut _ q315_e hG) (fun r1 h1 hq => ?_)
                        obtain ⟨rfl, hq, hG⟩ := hq
                        replace hq := hq.symm
                        subst hq
                        simp only [Option.toList, List.nil_append]
                        refine v_aload_n (i := 0) dX12_expression_237 rfl rfl ?_
                        refine g_X12_116 (q := 259) rfl sh_226 (by exact ltG hG (by decide)) (by exact rG hG r0_226_48) dX12_expression_238 ?_
                        refine v_aload_n (i := 0) dX12_expression_241 rfl rfl ?_
                        refine g_X12_309 rfl sh_226 (by exact ltG hG (by decide)) dX12_expression_242 ?_
                        refine v_aload_n (i := 0) dX12_expression_245 rfl rfl ?_
                        refine g_X12_20 (q := 229) rfl sh_226 (by exact ltG hG (by decide)) (by exact rG hG r0_226_5) dX12_expression_246 ?_
                        refine v_aload_n (i := 0) dX12_expression_249 rfl rfl ?_
                        refine g_X12_218 rfl sh_226 (by exact ltG hG (by decide)) dX12_expression_250 ?_
                        obtain ⟨k317, hF⟩ := ck_some hF
                        refine v_iaload sh_229 (by exact ltG hG (by decide)) (ixO k317) dX12_expression_253 ?_
                        obtain ⟨k318, hF⟩ := ck_some hF
                        refine v_iastore sh_259 (by exact ltG hG (by decide)) (ixO k318) dX12_expression_254 ?_
                        refine v_aload_n (i := 0) dX12_expression_255 rfl rfl ?_
                        refine v_dup dX12_expression_256 rfl ?_
                        refine g_X12_309 rfl sh_226 (by exact ltG hG (by decide)) dX12_expression_257 ?_
                        refine v_iconst (v := 1) dX12_expression_260 (by decide) ?_
                        refine v_iadd dX12_expression_261 ?_
                        refine p_X12_309 rfl sh_226 (by exact ltG hG (by decide)) dX12_expression_262 ?_
                        refine v_aload_n (i := 0) dX12_expression_265 rfl rfl ?_
                        obtain ⟨q319, q319_e, hF⟩ := Option.bind_eq_some_iff.mp hF
                        refine c_X12_236 rfl sh_226 (by exact ltG hG (by decide)) (Nat.le_of_ble_eq_true rfl) dX12_expression_266 (s_X12_goesOn _ q319_e hG) (fun r1 h1 hq => ?_)
                        obtain ⟨rfl, hq, hG⟩ := hq
                        replace hq := hq.symm
                        subst hq
                        simp only [Option.toList, List.nil_append]
                        refine v_goto 12 dX12_expression_269 (by decide) ?_
                        refine V.weak (la2 := [some (.ref 226), some (.int l1), some (.int 0)]) (by simp [wk]) ?_
                        exact (s_X12_expression_IH_12) _ _ _ _ hF hG
                      · rw [if_neg c314] at hF
                        refine v_iconst (v := 1) dX12_expression_229 (by decide) ?_
                        refine v_goto 234 dX12_expression_230 (by decide) ?_
                        obtain ⟨q321, q321_e, hF⟩ := Option.bind_eq_some_iff.mp hF
                        refine c_X12_318 rfl sh_226 (by exact ltG hG (by decide)) (Nat.le_of_ble_eq_true rfl) dX12_expression_234 (s_X12_comesOut _ q321_e hG) (fun r1 h1 hq => ?_)
                        obtain ⟨rfl, hq, hG⟩ := hq
                        replace hq := hq.symm
                        subst hq
                        simp only [Option.toList, List.nil_append]
                        refine v_aload_n (i := 0) dX12_expression_237 rfl rfl ?_
                        refine g_X12_116 (q := 259) rfl sh_226 (by exact ltG hG (by decide)) (by exact rG hG r0_226_48) dX12_expression_238 ?_
                        refine v_aload_n (i := 0) dX12_expression_241 rfl rfl ?_
                        refine g_X12_309 rfl sh_226 (by exact ltG hG (by decide)) dX12_expression_242 ?_
                        refine v_aload_n (i := 0) dX12_expression_245 rfl rfl ?_
                        refine g_X12_20 (q := 229) rfl sh_226 (by exact ltG hG (by decide)) (by exact rG hG r0_226_5) dX12_expression_246 ?_
                        refine v_aload_n (i := 0) dX12_expression_249 rfl rfl ?_
                        refine g_X12_218 rfl sh_226 (by exact ltG hG (by decide)) dX12_expression_250 ?_
                        obtain ⟨k323, hF⟩ := ck_some hF
                        refine v_iaload sh_229 (by exact ltG hG (by decide)) (ixO k323) dX12_expression_253 ?_
                        obtain ⟨k324, hF⟩ := ck_some hF
                        refine v_iastore sh_259 (by exact ltG hG (by decide)) (ixO k324) dX12_expression_254 ?_
                        refine v_aload_n (i := 0) dX12_expression_255 rfl rfl ?_
                        refine v_dup dX12_expression_256 rfl ?_
                        refine g_X12_309 rfl sh_226 (by exact ltG hG (by decide)) dX12_expression_257 ?_
                        refine v_iconst (v := 1) dX12_expression_260 (by decide) ?_
                        refine v_iadd dX12_expression_261 ?_
                        refine p_X12_309 rfl sh_226 (by exact ltG hG (by decide)) dX12_expression_262 ?_
                        refine v_aload_n (i := 0) dX12_expression_265 rfl rfl ?_
                        obtain ⟨q325, q325_e, hF⟩ := Option.bind_eq_some_iff.mp hF
                        refine c_X12_236 rfl sh_226 (by exact ltG hG (by decide)) (Nat.le_of_ble_eq_true rfl) dX12_expression_266 (s_X12_goesOn _ q325_e hG) (fun r1 h1 hq => ?_)
                        obtain ⟨rfl, hq, hG⟩ := hq
                        replace hq := hq.symm
                        subst hq
                        simp only [Option.toList, List.nil_append]
                        refine v_goto 12 dX12_expression_269 (by decide) ?_
                        refine V.weak (la2 := [some (.ref 226), some (.int l1), some (.int 0)]) (by simp [wk]) ?_
                        exact (s_X12_expression_IH_12) _ _ _ _ hF hG
                  · rw [if_pos c302] at hF
                    refine v_aload_n (i := 0) dX12_expression_191 rfl rfl ?_
                    refine g_X12_242 rfl sh_226 (by exact ltG hG (by decide)) dX12_expression_192 ?_
                    refine v_iload_n (i := 1) dX12_expression_195 rfl rfl ?_
                    refine v_icmp_le 204 dX12_expression_196 (by decide) (fun c327 => ?_) (fun c327 => ?_)
                    · rw [if_pos c327] at hF
                      refine v_aload_n (i := 0) dX12_expression_204 rfl rfl ?_
                      refine v_iconst (v := 0) dX12_expression_205 (by decide) ?_
                      obtain ⟨q328, q328_e, hF⟩ := Option.bind_eq_some_iff.mp hF
                      refine c_X12_318 rfl sh_226 (by exact ltG hG (by decide)) (Nat.le_of_ble_eq_true rfl) dX12_expression_206 (s_X12_comesOut _ q328_e hG) (fun r1 h1 hq => ?_)
                      obtain ⟨rfl, hq, hG⟩ := hq
                      replace hq := hq.symm
                      subst hq
                      simp only [Option.toList, List.nil_append]
                      refine v_return rfl dX12_expression_209 ?_
                      obtain rfl := Option.some.inj hF
                      exact ⟨rfl, rfl, hG⟩
                    · rw [if_neg c327] at hF
                      refine v_aload_n (i := 0) dX12_expression_199 rfl rfl ?_
                      refine v_iconst (v := 1) dX12_expression_200 (by decide) ?_
                      obtain ⟨q330, q330_e, hF⟩ := Option.bind_eq_some_iff.mp hF
                      refine c_X12_230 rfl sh_226 (by exact ltG hG (by decide)) (Nat.le_of_ble_eq_true rfl) dX12_expression_201 (s_X12_fail _ q330_e hG) (fun r1 h1 hq => ?_)
                      obtain ⟨rfl, hq, hG⟩ := hq
                      replace hq := hq.symm
                      subst hq
                      simp only [Option.toList, List.nil_append]
                      refine v_aload_n (i := 0) dX12_expression_204 rfl rfl ?_
                      refine v_iconst (v := 0) dX12_expression_205 (by decide) ?_
                      obtain ⟨q332, q332_e, hF⟩ := Option.bind_eq_some_iff.mp hF
                      refine c_X12_318 rfl sh_226 (by exact ltG hG (by decide)) (Nat.le_of_ble_eq_true rfl) dX12_expression_206 (s_X12_comesOut _ q332_e hG) (fun r1 h1 hq => ?_)
                      obtain ⟨rfl, hq, hG⟩ := hq
                      replace hq := hq.symm
                      subst hq
                      simp only [Option.toList, List.nil_append]
                      refine v_return rfl dX12_expression_209 ?_
                      obtain rfl := Option.some.inj hF
                      exact ⟨rfl, rfl, hG⟩
                · rw [if_neg c301] at hF
                  refine v_iconst (v := 1) dX12_expression_181 (by decide) ?_
                  refine v_goto 186 dX12_expression_182 (by decide) ?_
                  refine v_istore_n (i := 2) dX12_expression_186 rfl (by decide) (nlT rfl) ?_
                  simp only [List.set_cons_zero, List.set_cons_succ]
                  refine v_iload_n (i := 2) dX12_expression_187 rfl rfl ?_
                  refine v_if_ne 210 dX12_expression_188 (by decide) (fun c334 => ?_) (fun c334 => ?_)
                  · rw [if_neg c334] at hF
                    refine v_aload_n (i := 0) dX12_expression_210 rfl rfl ?_
                    refine v_aload_n (i := 0) dX12_expression_211 rfl rfl ?_
                    refine v_bipush (v := 10) dX12_expression_212 (by decide) ?_
                    obtain ⟨q335, q335_e, hF⟩ := Option.bind_eq_some_iff.mp hF
                    refine c_X12_233 rfl sh_226 (by exact ltG hG (by decide)) (Nat.le_of_ble_eq_true rfl) dX12_expression_214 (s_X12_is _ q335_e hG) (fun r1 h1 hq => ?_)
                    obtain ⟨rfl, hq, hG⟩ := hq
                    replace hq := hq.symm
                    subst hq
                    show V _ _ _ _ (_ :: _) _ _
                    refine v_if_ne 229 dX12_expression_217 (by decide) (fun c337 => ?_) (fun c337 => ?_)
                    · rw [if_neg c337] at hF
                      refine v_iconst (v := 1) dX12_expression_229 (by decide) ?_
                      refine v_goto 234 dX12_expression_230 (by decide) ?_
                      obtain ⟨q338, q338_e, hF⟩ := Option.bind_eq_some_iff.mp hF
                      refine c_X12_318 rfl sh_226 (by exact ltG hG (by decide)) (Nat.le_of_ble_eq_true rfl) dX12_expression_234 (s_X12_comesOut _ q338_e hG) (fun r1 h1 hq => ?_)
                      obtain ⟨rfl, hq, hG⟩ := hq
                      replace hq := hq.symm
                      subst hq
                      simp only [Option.toList, List.nil_append]
                      refine v_aload_n (i := 0) dX12_expression_237 rfl rfl ?_
                      refine g_X12_116 (q := 259) rfl sh_226 (by exact ltG hG (by decide)) (by exact rG hG r0_226_48) dX12_expression_238 ?_
                      refine v_aload_n (i := 0) dX12_expression_241 rfl rfl ?_
                      refine g_X12_309 rfl sh_226 (by exact ltG hG (by decide)) dX12_expression_242 ?_
                      refine v_aload_n (i := 0) dX12_expression_245 rfl rfl ?_
                      refine g_X12_20 (q := 229) rfl sh_226 (by exact ltG hG (by decide)) (by exact rG hG r0_226_5) dX12_expression_246 ?_
                      refine v_aload_n (i := 0) dX12_expression_249 rfl rfl ?_
                      refine g_X12_218 rfl sh_226 (by exact ltG hG (by decide)) dX12_expression_250 ?_
                      obtain ⟨k340, hF⟩ := ck_some hF
                      refine v_iaload sh_229 (by exact ltG hG (by decide)) (ixO k340) dX12_expression_253 ?_
                      obtain ⟨k341, hF⟩ := ck_some hF
                      refine v_iastore sh_259 (by exact ltG hG (by decide)) (ixO k341) dX12_expression_254 ?_
                      refine v_aload_n (i := 0) dX12_expression_255 rfl rfl ?_
                      refine v_dup dX12_expression_256 rfl ?_
                      refine g_X12_309 rfl sh_226 (by exact ltG hG (by decide)) dX12_expression_257 ?_
                      refine v_iconst (v := 1) dX12_expression_260 (by decide) ?_
                      refine v_iadd dX12_expression_261 ?_
                      refine p_X12_309 rfl sh_226 (by exact ltG hG (by decide)) dX12_expression_262 ?_
                      refine v_aload_n (i := 0) dX12_expression_265 rfl rfl ?_
                      obtain ⟨q342, q342_e, hF⟩ := Option.bind_eq_some_iff.mp hF
                      refine c_X12_236 rfl sh_226 (by exact ltG hG (by decide)) (Nat.le_of_ble_eq_true rfl) dX12_expression_266 (s_X12_goesOn _ q342_e hG) (fun r1 h1 hq => ?_)
                      obtain ⟨rfl, hq, hG⟩ := hq
                      replace hq := hq.symm
                      subst hq
                      simp only [Option.toList, List.nil_append]
                      refine v_goto 12 dX12_expression_269 (by decide) ?_
                      refine V.weak (la2 := [some (.ref 226), some (.int l1), some (.int 1)]) (by simp [wk]) ?_
                      exact (s_X12_expression_IH_12) _ _ _ _ hF hG
                    · rw [if_pos c337] at hF
                      refine v_aload_n (i := 0) dX12_expression_220 rfl rfl ?_
                      refine v_bipush (v := 15) dX12_expression_221 (by decide) ?_
                      obtain ⟨q344, q344_e, hF⟩ := Option.bind_eq_some_iff.mp hF
                      refine c_X12_233 rfl sh_226 (by exact ltG hG (by decide)) (Nat.le_of_ble_eq_true rfl) dX12_expression_223 (s_X12_is _ q344_e hG) (fun r1 h1 hq => ?_)
                      obtain ⟨rfl, hq, hG⟩ := hq
                      replace hq := hq.symm
                      subst hq
                      show V _ _ _ _ (_ :: _) _ _
                      refine v_if_eq 233 dX12_expression_226 (by decide) (fun c346 => ?_) (fun c346 => ?_)
                      · rw [if_pos c346] at hF
                        refine v_iconst (v := 0) dX12_expression_233 (by decide) ?_
                        obtain ⟨q347, q347_e, hF⟩ := Option.bind_eq_some_iff.mp hF
                        refine c_X12_318 rfl sh_226 (by exact ltG hG (by decide)) (Nat.le_of_ble_eq_true rfl) dX12_expression_234 (s_X12_comesOut _ q347_e hG) (fun r1 h1 hq => ?_)
                        obtain ⟨rfl, hq, hG⟩ := hq
                        replace hq := hq.symm
                        subst hq
                        simp only [Option.toList, List.nil_append]
                        refine v_aload_n (i := 0) dX12_expression_237 rfl rfl ?_
                        refine g_X12_116 (q := 259) rfl sh_226 (by exact ltG hG (by decide)) (by exact rG hG r0_226_48) dX12_expression_238 ?_
                        refine v_aload_n (i := 0) dX12_expression_241 rfl rfl ?_
                        refine g_X12_309 rfl sh_226 (by exact ltG hG (by decide)) dX12_expression_242 ?_
                        refine v_aload_n (i := 0) dX12_expression_245 rfl rfl ?_
                        refine g_X12_20 (q := 229) rfl sh_226 (by exact ltG hG (by decide)) (by exact rG hG r0_226_5) dX12_expression_246 ?_
                        refine v_aload_n (i := 0) dX12_expression_249 rfl rfl ?_
                        refine g_X12_218 rfl sh_226 (by exact ltG hG (by decide)) dX12_expression_250 ?_
                        obtain ⟨k349, hF⟩ := ck_some hF
                        refine v_iaload sh_229 (by exact ltG hG (by decide)) (ixO k349) dX12_expression_253 ?_
                        obtain ⟨k350, hF⟩ := ck_some hF
                        refine v_iastore sh_259 (by exact ltG hG (by decide)) (ixO k350) dX12_expression_254 ?_
                        refine v_aload_n (i := 0) dX12_expression_255 rfl rfl ?_
                        refine v_dup dX12_expression_256 rfl ?_
                        refine g_X12_309 rfl sh_226 (by exact ltG hG (by decide)) dX12_expression_257 ?_
                        refine v_iconst (v := 1) dX12_expression_260 (by decide) ?_
                        refine v_iadd dX12_expression_261 ?_
                        refine p_X12_309 rfl sh_226 (by exact ltG hG (by decide)) dX12_expression_262 ?_
                        refine v_aload_n (i := 0) dX12_expression_265 rfl rfl ?_
                        obtain ⟨q351, q351_e, hF⟩ := Option.bind_eq_some_iff.mp hF
                        refine c_X12_236 rfl sh_226 (by exact ltG hG (by decide)) (Nat.le_of_ble_eq_true rfl) dX12_expression_266 (s_X12_goesOn _ q351_e hG) (fun r1 h1 hq => ?_)
                        obtain ⟨rfl, hq, hG⟩ := hq
                        replace hq := hq.symm
                        subst hq
                        simp only [Option.toList, List.nil_append]
                        refine v_goto 12 dX12_expression_269 (by decide) ?_
                        refine V.weak (la2 := [some (.ref 226), some (.int l1), some (.int 1)]) (by simp [wk]) ?_
                        exact (s_X12_expression_IH_12) _ _ _ _ hF hG
                      · rw [if_neg c346] at hF
                        refine v_iconst (v := 1) dX12_expression_229 (by decide) ?_
                        refine v_goto 234 dX12_expression_230 (by decide) ?_
                        obtain ⟨q353, q353_e, hF⟩ := Option.bind_eq_some_iff.mp hF
                        refine c_X12_318 rfl sh_226 (by exact ltG hG (by decide)) (Nat.le_of_ble_eq_true rfl) dX12_expression_234 (s_X12_comesOut _ q353_e hG) (fun r1 h1 hq => ?_)
                        obtain ⟨rfl, hq, hG⟩ := hq
                        replace hq := hq.symm
                        subst hq
                        simp only [Option.toList, List.nil_append]
                        refine v_aload_n (i := 0) dX12_expression_237 rfl rfl ?_
                        refine g_X12_116 (q := 259) rfl sh_226 (by exact ltG hG (by decide)) (by exact rG hG r0_226_48) dX12_expression_238 ?_
                        refine v_aload_n (i := 0) dX12_expression_241 rfl rfl ?_
                        refine g_X12_309 rfl sh_226 (by exact ltG hG (by decide)) dX12_expression_242 ?_
                        refine v_aload_n (i := 0) dX12_expression_245 rfl rfl ?_
                        refine g_X12_20 (q := 229) rfl sh_226 (by exact ltG hG (by decide)) (by exact rG hG r0_226_5) dX12_expression_246 ?_
                        refine v_aload_n (i := 0) dX12_expression_249 rfl rfl ?_
                        refine g_X12_218 rfl sh_226 (by exact ltG hG (by decide)) dX12_expression_250 ?_
                        obtain ⟨k355, hF⟩ := ck_some hF
                        refine v_iaload sh_229 (by exact ltG hG (by decide)) (ixO k355) dX12_expression_253 ?_
                        obtain ⟨k356, hF⟩ := ck_some hF
                        refine v_iastore sh_259 (by exact ltG hG (by decide)) (ixO k356) dX12_expression_254 ?_
                        refine v_aload_n (i := 0) dX12_expression_255 rfl rfl ?_
                        refine v_dup dX12_expression_256 rfl ?_
                        refine g_X12_309 rfl sh_226 (by exact ltG hG (by decide)) dX12_expression_257 ?_
                        refine v_iconst (v := 1) dX12_expression_260 (by decide) ?_
                        refine v_iadd dX12_expression_261 ?_
                        refine p_X12_309 rfl sh_226 (by exact ltG hG (by decide)) dX12_expression_262 ?_
                        refine v_aload_n (i := 0) dX12_expression_265 rfl rfl ?_
                        obtain ⟨q357, q357_e, hF⟩ := Option.bind_eq_some_iff.mp hF
                        refine c_X12_236 rfl sh_226 (by exact ltG hG (by decide)) (Nat.le_of_ble_eq_true rfl) dX12_expression_266 (s_X12_goesOn _ q357_e hG) (fun r1 h1 hq => ?_)
                        obtain ⟨rfl, hq, hG⟩ := hq
                        replace hq := hq.symm
                        subst hq
                        simp only [Option.toList, List.nil_append]
                        refine v_goto 12 dX12_expression_269 (by decide) ?_
                        refine V.weak (la2 := [some (.ref 226), some (.int l1), some (.int 1)]) (by simp [wk]) ?_
                        exact (s_X12_expression_IH_12) _ _ _ _ hF hG
                  · rw [if_pos c334] at hF
                    refine v_aload_n (i := 0) dX12_expression_191 rfl rfl ?_
                    refine g_X12_242 rfl sh_226 (by exact ltG hG (by decide)) dX12_expression_192 ?_
                    refine v_iload_n (i := 1) dX12_expression_195 rfl rfl ?_
                    refine v_icmp_le 204 dX12_expression_196 (by decide) (fun c359 => ?_) (fun c359 => ?_)
                    · rw [if_pos c359] at hF
                      refine v_aload_n (i := 0) dX12_expression_204 rfl rfl ?_
                      refine v_iconst (v := 0) dX12_expression_205 (by decide) ?_
                      obtain ⟨q360, q360_e, hF⟩ := Option.bind_eq_some_iff.mp hF
                      refine c_X12_318 rfl sh_226 (by exact ltG hG (by decide)) (Nat.le_of_ble_eq_true rfl) dX12_expression_206 (s_X12_comesOut _ q360_e hG) (fun r1 h1 hq => ?_)
                      obtain ⟨rfl, hq, hG⟩ := hq
                      replace hq := hq.symm
                      subst hq
                      simp only [Option.toList, List.nil_append]
                      refine v_return rfl dX12_expression_209 ?_
                      obtain rfl := Option.some.inj hF
                      exact ⟨rfl, rfl, hG⟩
                    · rw [if_neg c359] at hF
                      refine v_aload_n (i := 0) dX12_expression_199 rfl rfl ?_
                      refine v_iconst (v := 1) dX12_expression_200 (by decide) ?_
                      obtain ⟨q362, q362_e, hF⟩ := Option.bind_eq_some_iff.mp hF
                      refine c_X12_230 rfl sh_226 (by exact ltG hG (by decide)) (Nat.le_of_ble_eq_true rfl) dX12_expression_201 (s_X12_fail _ q362_e hG) (fun r1 h1 hq => ?_)
                      obtain ⟨rfl, hq, hG⟩ := hq
                      replace hq := hq.symm
                      subst hq
                      simp only [Option.toList, List.nil_append]
                      refine v_aload_n (i := 0) dX12_expression_204 rfl rfl ?_
                      refine v_iconst (v := 0) dX12_expression_205 (by decide) ?_
                      obtain ⟨q364, q364_e, hF⟩ := Option.bind_eq_some_iff.mp hF
                      refine c_X12_318 rfl sh_226 (by exact ltG hG (by decide)) (Nat.le_of_ble_eq_true rfl) dX12_expression_206 (s_X12_comesOut _ q364_e hG) (fun r1 h1 hq => ?_)
                      obtain ⟨rfl, hq, hG⟩ := hq
                      replace hq := hq.symm
                      subst hq
                      simp only [Option.toList, List.nil_append]
                      refine v_return rfl dX12_expression_209 ?_
                      obtain rfl := Option.some.inj hF
                      exact ⟨rfl, rfl, hG⟩
        · rw [if_neg c193] at hF
          refine v_aload_n (i := 0) dX12_expression_113 rfl rfl ?_
          refine v_iconst (v := 0) dX12_expression_114 (by decide) ?_
          obtain ⟨q366, q366_e, hF⟩ := Option.bind_eq_some_iff.mp hF
          refine c_X12_318 rfl sh_226 (by exact ltG hG (by decide)) (Nat.le_of_ble_eq_true rfl) dX12_expression_115 (s_X12_comesOut _ q366_e hG) (fun r1 h1 hq => ?_)
          obtain ⟨rfl, hq, hG⟩ := hq
          replace hq := hq.symm
          subst hq
          simp only [Option.toList, List.nil_append]
          refine v_aload_n (i := 0) dX12_expression_118 rfl rfl ?_
          refine v_dup dX12_expression_119 rfl ?_
          refine g_X12_309 rfl sh_226 (by exact ltG hG (by decide)) dX12_expression_120 ?_
          refine v_iconst (v := 1) dX12_expression_123 (by decide) ?_
          refine v_isub dX12_expression_124 ?_
          refine p_X12_309 rfl sh_226 (by exact ltG hG (by decide)) dX12_expression_125 ?_
          refine v_aload_n (i := 0) dX12_expression_128 rfl rfl ?_
          refine v_dup dX12_expression_129 rfl ?_
          refine g_X12_242 rfl sh_226 (by exact ltG hG (by decide)) dX12_expression_130 ?_
          refine v_iconst (v := 1) dX12_expression_133 (by decide) ?_
          refine v_isub dX12_expression_134 ?_
          refine p_X12_242 rfl sh_226 (by exact ltG hG (by decide)) dX12_expression_135 ?_
          refine v_aload_n (i := 0) dX12_expression_138 rfl rfl ?_
          obtain ⟨q368, q368_e, hF⟩ := Option.bind_eq_some_iff.mp hF
          refine c_X12_236 rfl sh_226 (by exact ltG hG (by decide)) (Nat.le_of_ble_eq_true rfl) dX12_expression_139 (s_X12_goesOn _ q368_e hG) (fun r1 h1 hq => ?_)
          obtain ⟨rfl, hq, hG⟩ := hq
          replace hq := hq.symm
          subst hq
          simp only [Option.toList, List.nil_append]
          refine v_goto 96 dX12_expression_142 (by decide) ?_
          refine V.weak (la2 := [some (.ref 226), some (.int l1), some (.int l2)]) (by simp [wk]) ?_
          exact (s_X12_expression_IH_96) _ _ _ _ hF hG
def F_X12_expression (n : Nat) (h : Hp) : Option Hp := W_X12_expression n 12 (wrI h 226 49 0)  (hi (wrI h 226 49 0) 226 12) 1
set_option maxRecDepth 100000 in
set_option maxHeartbeats 4000000 in
theorem s_X12_expression (d : Nat) {n : Nat} {h : Hp}  {q0 : Hp} (hF : F_X12_expression n h  = some q0) (hG : G h)  : Kc mX12_expression (d + 3) [.ref 226] h (fun r1 h1 => r1 = none ∧ h1 = q0 ∧ G q0) := by
  obtain ⟨h', rfl⟩ : ∃ z, z = q0 := ⟨_, rfl⟩
  obtain ⟨s_X12_expression_IH_12, s_X12_expression_IH_23, s_X12_expression_IH_96⟩ := sw_X12_expression d   n
  unfold F_X12_expression at hF
  refine Kc.of [some (.ref 226), none, none] ok_X12_expression rfl (Nat.le_of_ble_eq_true rfl) ?_
  refine v_aload_n (i := 0) dX12_expression_0 rfl rfl ?_
  refine v_iconst (v := 0) dX12_expression_1 (by decide) ?_
  refine p_X12_309 rfl sh_226 (by exact ltG hG (by decide)) dX12_expression_2 ?_
  refine v_aload_n (i := 0) dX12_expression_5 rfl rfl ?_
  refine g_X12_242 rfl sh_226 (by exact ltG hG (by decide)) dX12_expression_6 ?_
  refine v_istore_n (i := 1) dX12_expression_9 rfl (by decide) (nlT rfl) ?_
  simp only [List.set_cons_zero, List.set_cons_succ]
  refine v_iconst (v := 1) dX12_expression_10 (by decide) ?_
  refine v_istore_n (i := 2) dX12_expression_11 rfl (by decide) (nlT rfl) ?_
  simp only [List.set_cons_zero, List.set_cons_succ]
  refine V.weak (la2 := [some (.ref 226), some (.int (hi (wrI h 226 49 0) 226 12)), some (.int 1)]) (by simp [wk]) ?_
  exact (s_X12_expression_IH_12) _ _ _ _ hF hG
def W_X12_farOf : Nat → Nat → Hp → Int32 → Int32 → Int32 → Int32 → Int32 → Option (Int32 × Hp)
  | 0 => fun _ _ _ _ _ _ _ => none
  | n + 1 => fun hd h l1 l2 l3 l4 l5 => (if hd = 21 then (if (25 : Int32) ≤ (l5 : Int32) then some ((-2), h) else (if (((((l4 : Int32) >>> ((l2 : Int32) &&& 31)) : Int32) &&& (1 : Int32)) : Int32) = (1 : Int32) then some (l5, h) else ((F_X12_nearBits n h l4).bind (fun q3 => W_X12_farOf n 21 q3.2  l1 l2 l3 ((q3.1 : Int32) &&& (l3 : Int32)) (l5 + 1))))) else none)
set_option maxRecDepth 100000 in
set_option maxHeartbeats 4000000 in
theorem sw_X12_farOf (d : Nat)  (n : Nat) : (∀ (l1 : Int32) (l2 : Int32) (l3 : Int32) (l4 : Int32) (l5 : Int32) (h : Hp), ∀ (r : Int32) (h' : Hp), W_X12_farOf n 21 h  l1 l2 l3 l4 l5 = some (r, h') → G h → V mX12_farOf (d + 2) 21 [some (.ref 226), some (.int l1), some (.int l2), some (.int l3), some (.int l4), some (.int l5)] [] h (fun r1 h1 => r1 = some (.int r) ∧ h1 = h' ∧ G h')) := by
  induction n with
  | zero => exact by intros; contradiction
  | succ n ih =>
    have s_X12_farOf_IH_21 := ih
    intro l1 l2 l3 l4 l5 h r h' hF hG
    unfold W_X12_farOf at hF
    rw [if_pos rfl] at hF
    refine v_iload (i := 5) dX12_farOf_21 rfl ?_
    refine v_bipush (v := 25) dX12_farOf_23 (by decide) ?_
    refine v_icmp_ge 57 dX12_farOf_25 (by decide) (fun c1 => ?_) (fun c1 => ?_)
    · rw [if_pos c1] at hF
      refine v_bipush (v := (-2)) dX12_farOf_57 (by decide) ?_
      refine v_ireturn rfl dX12_farOf_59 ?_
      obtain ⟨rfl, rfl⟩ := Prod.mk.inj (Option.some.inj hF)
      exact ⟨rfl, rfl, hG⟩
    · rw [if_neg c1] at hF
      refine v_iload (i := 4) dX12_farOf_28 rfl ?_
      refine v_iload_n (i := 2) dX12_farOf_30 rfl rfl ?_
      refine v_ishr dX12_farOf_31 ?_
      refine v_iconst (v := 1) dX12_farOf_32 (by decide) ?_
      refine v_iand dX12_farOf_33 ?_
      refine v_iconst (v := 1) dX12_farOf_34 (by decide) ?_
      refine v_icmp_ne 41 dX12_farOf_35 (by decide) (fun c2 => ?_) (fun c2 => ?_)
      · rw [if_neg c2] at hF
        refine v_aload_n (i := 0) dX12_farOf_41 rfl rfl ?_
        refine v_iload (i := 4) dX12_farOf_42 rfl ?_
        obtain ⟨q3, q3_e, hF⟩ := Option.bind_eq_some_iff.mp hF
        refine c_X12_430 rfl sh_226 (by exact ltG hG (by decide)) (Nat.le_of_ble_eq_true rfl) dX12_farOf_44 (s_X12_nearBits _ q3_e hG) (fun r1 h1 hq => ?_)
        obtain ⟨rfl, hq, hG⟩ := hq
        replace hq := hq.symm
        subst hq
        show V _ _ _ _ (_ :: _) _ _
        refine v_iload_n (i := 3) dX12_farOf_47 rfl rfl ?_
        refine v_iand dX12_farOf_48 ?_
        refine v_istore (i := 4) dX12_farOf_49 (by decide) (nlT rfl) ?_
        simp only [List.set_cons_zero, List.set_cons_succ]
        refine v_iinc (i := 5) (v := (l5 + 1)) dX12_farOf_51 rfl rfl (by decide) (nlT rfl) ?_
        simp only [List.set_cons_zero, List.set_cons_succ]
        refine v_goto 21 dX12_farOf_54 (by decide) ?_
        refine V.weak (la2 := [some (.ref 226), some (.int l1), some (.int l2), some (.int l3), some (.int ((q3.1 : Int32) &&& (l3 : Int32))), some (.int (l5 + 1))]) (by simp [wk]) ?_
        exact (s_X12_farOf_IH_21) _ _ _ _ _ _ _ _ hF hG
      · rw [if_pos c2] at hF
        refine v_iload (i := 5) dX12_farOf_38 rfl ?_
        refine v_ireturn rfl dX12_farOf_40 ?_
        obtain ⟨rfl, rfl⟩ := Prod.mk.inj (Option.some.inj hF)
        exact ⟨rfl, rfl, hG⟩
def F_X12_farOf (n : Nat) (h : Hp) (x1 : Int32) (x2 : Int32) : Option (Int32 × Hp) := ((F_X12_freeBits n h).bind (fun q5 => W_X12_farOf n 21 q5.2  x1 x2 ((((q5.1 : Int32) ||| (((1 : Int32) <<< ((x1 : Int32) &&& 31)) : Int32)) : Int32) ||| (((1 : Int32) <<< ((x2 : Int32) &&& 31)) : Int32)) ((1 : Int32) <<< ((x1 : Int32) &&& 31)) 0))
set_option maxRecDepth 100000 in
set_option maxHeartbeats 4000000 in
theorem s_X12_farOf (d : Nat) {n : Nat} {h : Hp} {x1 : Int32} {x2 : Int32} {q0 : (Int32 × Hp)} (hF : F_X12_farOf n h x1 x2 = some q0) (hG : G h)  : Kc mX12_farOf (d + 2) [.ref 226, .int x1, .int x2] h (fun r1 h1 => r1 = some (.int q0.1) ∧ h1 = q0.2 ∧ G q0.2) := by
  obtain ⟨r, h'⟩ := q0
  have s_X12_farOf_IH_21 := sw_X12_farOf d   n
  unfold F_X12_farOf at hF
  refine Kc.of [some (.ref 226), some (.int x1), some (.int x2), none, none, none] ok_X12_farOf rfl (Nat.le_of_ble_eq_true rfl) ?_
  refine v_aload_n (i := 0) dX12_farOf_0 rfl rfl ?_
  obtain ⟨q5, q5_e, hF⟩ := Option.bind_eq_some_iff.mp hF
  refine c_X12_427 rfl sh_226 (by exact ltG hG (by decide)) (Nat.le_of_ble_eq_true rfl) dX12_farOf_1 (s_X12_freeBits _ q5_e hG) (fun r1 h1 hq => ?_)
  obtain ⟨rfl, hq, hG⟩ := hq
  replace hq := hq.symm
  subst hq
  show V _ _ _ _ (_ :: _) _ _
  refine v_iconst (v := 1) dX12_farOf_4 (by decide) ?_
  refine v_iload_n (i := 1) dX12_farOf_5 rfl rfl ?_
  refine v_ishl dX12_farOf_6 ?_
  refine v_ior dX12_farOf_7 ?_
  refine v_iconst (v := 1) dX12_farOf_8 (by decide) ?_
  refine v_iload_n (i := 2) dX12_farOf_9 rfl rfl ?_
  refine v_ishl dX12_farOf_10 ?_
  refine v_ior dX12_farOf_11 ?_
  refine v_istore_n (i := 3) dX12_farOf_12 rfl (by decide) (nlT rfl) ?_
  simp only [List.set_cons_zero, List.set_cons_succ]
  refine v_iconst (v := 1) dX12_farOf_13 (by decide) ?_
  refine v_iload_n (i := 1) dX12_farOf_14 rfl rfl ?_
  refine v_ishl dX12_farOf_15 ?_
  refine v_istore (i := 4) dX12_farOf_16 (by decide) (nlT rfl) ?_
  simp only [List.set_cons_zero, List.set_cons_succ]
  refine v_iconst (v := 0) dX12_farOf_18 (by decide) ?_
  refine v_istore (i := 5) dX12_farOf_19 (by decide) (nlT rfl) ?_
  simp only [List.set_cons_zero, List.set_cons_succ]
  refine V.weak (la2 := [some (.ref 226), some (.int x1), some (.int x2), some (.int ((((q5.1 : Int32) ||| (((1 : Int32) <<< ((x1 : Int32) &&& 31)) : Int32)) : Int32) ||| (((1 : Int32) <<< ((x2 : Int32) &&& 31)) : Int32))), some (.int ((1 : Int32) <<< ((x1 : Int32) &&& 31))), some (.int 0)]) (by simp [wk]) ?_
  exact (s_X12_farOf_IH_21) _ _ _ _ _ _ _ _ hF hG
def W_X12_farthestFrom : Nat → Nat → Hp → Int32 → Int32 → Int32 → Option (Int32 × Hp)
  | 0 => fun _ _ _ _ _ => none
  | n + 1 => fun hd h l1 l2 l3 => (if hd = 4 then ((F_X12_cells n h).bind (fun q1 => (if (q1.1 : Int32) ≤ (l3 : Int32) then some (l2, q1.2) else ((F_X12_isRoped n q1.2 l3).bind (fun q4 => (if (q4.1 : Int32) = 0 then ((F_X12_farOf n q4.2 l1 l3).bind (fun q7 => (if 0 ≤ (q7.1 : Int32) then (if (q7.1 : Int32) ≤ (l2 : Int32) then W_X12_farthestFrom n 4 q7.2  l1 l2 (l3 + 1) else W_X12_farthestFrom n 4 q7.2  l1 q7.1 (l3 + 1)) else some (25, q7.2)))) else W_X12_farthestFrom n 4 q4.2  l1 l2 (l3 + 1))))))) else none)
set_option maxRecDepth 100000 in
set_option maxHeartbeats 4000000 in
theorem sw_X12_farthestFrom (d : Nat)  (n : Nat) : (∀ (l1 : Int32) (l2 : Int32) (l3 : Int32) (h : Hp), ∀ (r : Int32) (h' : Hp), W_X12_farthestFrom n 4 h  l1 l2 l3 = some (r, h') → G h → V mX12_farthestFrom (d + 3) 4 [some (.ref 226), some (.int l1), some (.int l2), some (.int l3), none] [] h (fun r1 h1 => r1 = some (.int r) ∧ h1 = h' ∧ G h')) := by
  induction n with
  | zero => exact by intros; contradiction
  | succ n ih =>
    have s_X12_farthestFrom_IH_4 := ih
    intro l1 l2 l3 h r h' hF hG
    unfold W_X12_farthestFrom at hF
    rw [if_pos rfl] at hF
    refine v_iload_n (i := 3) dX12_farthestFrom_4 rfl rfl ?_
    refine v_aload_n (i := 0) dX12_farthestFrom_5 rfl rfl ?_
    obtain ⟨q1, q1_e, hF⟩ := Option.bind_eq_some_iff.mp hF
    refine c_X12_326 rfl sh_226 (by exact ltG hG (by decide)) (Nat.le_of_ble_eq_true rfl) dX12_farthestFrom_6 (s_X12_cells _ q1_e hG) (fun r1 h1 hq => ?_)
    obtain ⟨rfl, hq, hG⟩ := hq
    replace hq := hq.symm
    subst hq
    show V _ _ _ _ (_ :: _) _ _
    refine v_icmp_ge 54 dX12_farthestFrom_9 (by decide) (fun c3 => ?_) (fun c3 => ?_)
    · rw [if_pos c3] at hF
      refine v_iload_n (i := 2) dX12_farthestFrom_54 rfl rfl ?_
      refine v_ireturn rfl dX12_farthestFrom_55 ?_
      obtain ⟨rfl, rfl⟩ := Prod.mk.inj (Option.some.inj hF)
      exact ⟨rfl, rfl, hG⟩
    · rw [if_neg c3] at hF
      refine v_aload_n (i := 0) dX12_farthestFrom_12 rfl rfl ?_
      refine v_iload_n (i := 3) dX12_farthestFrom_13 rfl rfl ?_
      obtain ⟨q4, q4_e, hF⟩ := Option.bind_eq_some_iff.mp hF
      refine c_X12_372 rfl sh_226 (by exact ltG hG (by decide)) (Nat.le_of_ble_eq_true rfl) dX12_farthestFrom_14 (s_X12_isRoped _ q4_e hG) (fun r1 h1 hq => ?_)
      obtain ⟨rfl, hq, hG⟩ := hq
      replace hq := hq.symm
      subst hq
      show V _ _ _ _ (_ :: _) _ _
      refine v_if_eq 23 dX12_farthestFrom_17 (by decide) (fun c6 => ?_) (fun c6 => ?_)
      · rw [if_pos c6] at hF
        refine v_aload_n (i := 0) dX12_farthestFrom_23 rfl rfl ?_
        refine v_iload_n (i := 1) dX12_farthestFrom_24 rfl rfl ?_
        refine v_iload_n (i := 3) dX12_farthestFrom_25 rfl rfl ?_
        obtain ⟨q7, q7_e, hF⟩ := Option.bind_eq_some_iff.mp hF
        refine c_X12_468 rfl sh_226 (by exact ltG hG (by decide)) (Nat.le_of_ble_eq_true rfl) dX12_farthestFrom_26 (s_X12_farOf _ q7_e hG) (fun r1 h1 hq => ?_)
        obtain ⟨rfl, hq, hG⟩ := hq
        replace hq := hq.symm
        subst hq
        show V _ _ _ _ (_ :: _) _ _
        refine v_istore (i := 4) dX12_farthestFrom_29 (by decide) (nlT rfl) ?_
        simp only [List.set_cons_zero, List.set_cons_succ]
        refine v_iload (i := 4) dX12_farthestFrom_31 rfl ?_
        refine v_if_ge 39 dX12_farthestFrom_33 (by decide) (fun c9 => ?_) (fun c9 => ?_)
        · rw [if_pos c9] at hF
          refine v_iload (i := 4) dX12_farthestFrom_39 rfl ?_
          refine v_iload_n (i := 2) dX12_farthestFrom_41 rfl rfl ?_
          refine v_icmp_le 48 dX12_farthestFrom_42 (by decide) (fun c10 => ?_) (fun c10 => ?_)
          · rw [if_pos c10] at hF
            refine v_iinc (i := 3) (v := (l3 + 1)) dX12_farthestFrom_48 rfl rfl (by decide) (nlT rfl) ?_
            simp only [List.set_cons_zero, List.set_cons_succ]
            refine v_goto 4 dX12_farthestFrom_51 (by decide) ?_
            refine V.weak (la2 := [some (.ref 226), some (.int l1), some (.int l2), some (.int (l3 + 1)), none]) (by simp [wk]) ?_
            exact (s_X12_farthestFrom_IH_4) _ _ _ _ _ _ hF hG
          · rw [if_neg c10] at hF
            refine v_iload (i := 4) dX12_farthestFrom_45 rfl ?_
            refine v_istore_n (i := 2) dX12_farthestFrom_47 rfl (by decide) (nlT rfl) ?_
            simp only [List.set_cons_zero, List.set_cons_succ]
            refine v_iinc (i := 3) (v := (l3 + 1)) dX12_farthestFrom_48 rfl rfl (by decide) (nlT rfl) ?_
            simp only [List.set_cons_zero, List.set_cons_succ]
            refine v_goto 4 dX12_farthestFrom_51 (by decide) ?_
            refine V.weak (la2 := [some (.ref 226), some (.int l1), some (.int q7.1), some (.int (l3 + 1)), none]) (by simp [wk]) ?_
            exact (s_X12_farthestFrom_IH_4) _ _ _ _ _ _ hF hG
        · rw [if_neg c9] at hF
          refine v_bipush (v := 25) dX12_farthestFrom_36 (by decide) ?_
          refine v_ireturn rfl dX12_farthestFrom_38 ?_
          obtain ⟨rfl, rfl⟩ := Prod.mk.inj (Option.some.inj hF)
          exact ⟨rfl, rfl, hG⟩
      · rw [if_neg c6] at hF
        refine v_goto 48 dX12_farthestFrom_20 (by decide) ?_
        refine v_iinc (i := 3) (v := (l3 + 1)) dX12_farthestFrom_48 rfl rfl (by decide) (nlT rfl) ?_
        simp only [List.set_cons_zero, List.set_cons_succ]
        refine v_goto 4 dX12_farthestFrom_51 (by decide) ?_
        refine V.weak (la2 := [some (.ref 226), some (.int l1), some (.int l2), some (.int (l3 + 1)), none]) (by simp [wk]) ?_
        exact (s_X12_farthestFrom_IH_4) _ _ _ _ _ _ hF hG
def F_X12_farthestFrom (n : Nat) (h : Hp) (x1 : Int32) : Option (Int32 × Hp) := W_X12_farthestFrom n 4 h  x1 0 0
set_option maxRecDepth 100000 in
set_option maxHeartbeats 4000000 in
theorem s_X12_farthestFrom (d : Nat) {n : Nat} {h : Hp} {x1 : Int32} {q0 : (Int32 × Hp)} (hF : F_X12_farthestFrom n h x1 = some q0) (hG : G h)  : Kc mX12_farthestFrom (d + 3) [.ref 226, .int x1] h (fun r1 h1 => r1 = some (.int q0.1) ∧ h1 = q0.2 ∧ G q0.2) := by
  obtain ⟨r, h'⟩ := q0
  have s_X12_farthestFrom_IH_4 := sw_X12_farthestFrom d   n
  unfold F_X12_farthestFrom at hF
  refine Kc.of [some (.ref 226), some (.int x1), none, none, none] ok_X12_farthestFrom rfl (Nat.le_of_ble_eq_true rfl) ?_
  refine v_iconst (v := 0) dX12_farthestFrom_0 (by decide) ?_
  refine v_istore_n (i := 2) dX12_farthestFrom_1 rfl (by decide) (nlT rfl) ?_
  simp only [List.set_cons_zero, List.set_cons_succ]
  refine v_iconst (v := 0) dX12_farthestFrom_2 (by decide) ?_
  refine v_istore_n (i := 3) dX12_farthestFrom_3 rfl (by decide) (nlT rfl) ?_
  simp only [List.set_cons_zero, List.set_cons_succ]
  refine V.weak (la2 := [some (.ref 226), some (.int x1), some (.int 0), some (.int 0), none]) (by simp [wk]) ?_
  exact (s_X12_farthestFrom_IH_4) _ _ _ _ _ _ hF hG
def F_X12_feed (n : Nat) (h : Hp) (x1 : Int32) (x2 : Int32) (x3 : Int32) (x4 : Int32) (x5 : Int32) : Option (Int32 × Hp) := (if (((hi h 226 2) + 20) : Int32) ≤ (2000 : Int32) then ((F_X12_lays n h x1).bind (fun q2 => ((F_X12_lays n q2 x2).bind (fun q4 => ((F_X12_lays n q4 x3).bind (fun q6 => ((F_X12_lays n q6 x4).bind (fun q8 => ((F_X12_lays n q8 x5).bind (fun q10 => some ((hi q10 226 2), q10))))))))))) else some ((-1), h))
set_option maxRecDepth 100000 in
set_option maxHeartbeats 4000000 in
theorem s_X12_feed (d : Nat) {n : Nat} {h : Hp} {x1 : Int32} {x2 : Int32} {x3 : Int32} {x4 : Int32} {x5 : Int32} {q0 : (Int32 × Hp)} (hF : F_X12_feed n h x1 x2 x3 x4 x5 = some q0) (hG : G h)  : Kc mX12_feed (d + 1) [.ref 226, .int x1, .int x2, .int x3, .int x4, .int x5] h (fun r1 h1 => r1 = some (.int q0.1) ∧ h1 = q0.2 ∧ G q0.2) := by
  obtain ⟨r, h'⟩ := q0
  unfold F_X12_feed at hF
  refine Kc.of [some (.ref 226), some (.int x1), some (.int x2), some (.int x3), some (.int x4), some (.int x5)] ok_X12_feed rfl (Nat.le_of_ble_eq_true rfl) ?_
  refine v_aload_n (i := 0) dX12_feed_0 rfl rfl ?_
  refine g_X12_178 rfl sh_226 (by exact ltG hG (by decide)) dX12_feed_1 ?_
  refine v_bipush (v := 20) dX12_feed_4 (by decide) ?_
  refine v_iadd dX12_feed_6 ?_
  refine v_sipush (v := 2000) dX12_feed_7 (by decide) ?_
  refine v_icmp_le 15 dX12_feed_10 (by decide) (fun c1 => ?_) (fun c1 => ?_)
  · rw [if_pos c1] at hF
    refine v_aload_n (i := 0) dX12_feed_15 rfl rfl ?_
    refine v_iload_n (i := 1) dX12_feed_16 rfl rfl ?_
    obtain ⟨q2, q2_e, hF⟩ := Option.bind_eq_some_iff.mp hF
    refine c_X12_181 rfl sh_226 (by exact ltG hG (by decide)) (Nat.le_of_ble_eq_true rfl) dX12_feed_17 (s_X12_lays _ q2_e hG) (fun r1 h1 hq => ?_)
    obtain ⟨rfl, hq, hG⟩ := hq
    replace hq := hq.symm
    subst hq
    simp only [Option.toList, List.nil_append]
    refine v_aload_n (i := 0) dX12_feed_20 rfl rfl ?_
    refine v_iload_n (i := 2) dX12_feed_21 rfl rfl ?_
    obtain ⟨q4, q4_e, hF⟩ := Option.bind_eq_some_iff.mp hF
    refine c_X12_181 rfl sh_226 (by exact ltG hG (by decide)) (Nat.le_of_ble_eq_true rfl) dX12_feed_22 (s_X12_lays _ q4_e hG) (fun r1 h1 hq => ?_)
    obtain ⟨rfl, hq, hG⟩ := hq
    replace hq := hq.symm
    subst hq
    simp only [Option.toList, List.nil_append]
    refine v_aload_n (i := 0) dX12_feed_25 rfl rfl ?_
    refine v_iload_n (i := 3) dX12_feed_26 rfl rfl ?_
    obtain ⟨q6, q6_e, hF⟩ := Option.bind_eq_some_iff.mp hF
    refine c_X12_181 rfl sh_226 (by exact ltG hG (by decide)) (Nat.le_of_ble_eq_true rfl) dX12_feed_27 (s_X12_lays _ q6_e hG) (fun r1 h1 hq => ?_)
    obtain ⟨rfl, hq, hG⟩ := hq
    replace hq := hq.symm
    subst hq
    simp only [Option.toList, List.nil_append]
    refine v_aload_n (i := 0) dX12_feed_30 rfl rfl ?_
    refine v_iload (i := 4) dX12_feed_31 rfl ?_
    obtain ⟨q8, q8_e, hF⟩ := Option.bind_eq_some_iff.mp hF
    refine c_X12_181 rfl sh_226 (by exact ltG hG (by decide)) (Nat.le_of_ble_eq_true rfl) dX12_feed_33 (s_X12_lays _ q8_e hG) (fun r1 h1 hq => ?_)
    obtain ⟨rfl, hq, hG⟩ := hq
    replace hq := hq.symm
    subst hq
    simp only [Option.toList, List.nil_append]
    refine v_aload_n (i := 0) dX12_feed_36 rfl rfl ?_
    refine v_iload (i := 5) dX12_feed_37 rfl ?_
    obtain ⟨q10, q10_e, hF⟩ := Option.bind_eq_some_iff.mp hF
    refine c_X12_181 rfl sh_226 (by exact ltG hG (by decide)) (Nat.le_of_ble_eq_true rfl) dX12_feed_39 (s_X12_lays _ q10_e hG) (fun r1 h1 hq => ?_)
    obtain ⟨rfl, hq, hG⟩ := hq
    replace hq := hq.symm
    subst hq
    simp only [Option.toList, List.nil_append]
    refine v_aload_n (i := 0) dX12_feed_42 rfl rfl ?_
    refine g_X12_178 rfl sh_226 (by exact ltG hG (by decide)) dX12_feed_43 ?_
    refine v_ireturn rfl dX12_feed_46 ?_
    obtain ⟨rfl, rfl⟩ := Prod.mk.inj (Option.some.inj hF)
    exact ⟨rfl, rfl, hG⟩
  · rw [if_neg c1] at hF
    refine v_iconst (v := (-1)) dX12_feed_13 (by decide) ?_
    refine v_ireturn rfl dX12_feed_14 ?_
    obtain ⟨rfl, rfl⟩ := Prod.mk.inj (Option.some.inj hF)
    exact ⟨rfl, rfl, hG⟩
def W_X12_fillsReach : Nat → Nat → Hp → Nat → Int32 → Int32 → Int32 → Option Hp
  | 0 => fun _ _ _ _ _ _ => none
  | n + 1 => fun hd h b1 l2 l3 l4 => (if hd = 9 then (if (100 : Int32) < (l4 : Int32) then some h else (if ixOK (l4 - 1) 101 = true then ((F_X12_nearBits n h (hi h b1 (Int32.toNatClampNeg (l4 - 1)))).bind (fun q3 => ((F_X12_safeBits n q3.2 (l3 + l4)).bind (fun q5 => (if ixOK l4 101 = true then W_X12_fillsReach n 9 (wrI q5.2 b1 (Int32.toNatClampNeg l4) ((q3.1 : Int32) &&& (q5.1 : Int32))) b1 l2 l3 (l4 + 1) else none))))) else none)) else none)
set_option maxRecDepth 100000 in
set_option maxHeartbeats 4000000 in
theorem sw_X12_fillsReach (d : Nat) (b1 : Nat) (ht1 : ArI 101 b1) (n : Nat) : (∀ (l2 : Int32) (l3 : Int32) (l4 : Int32) (h : Hp), ∀ (h' : Hp), W_X12_fillsReach n 9 h b1 l2 l3 l4 = some h' → G h → V mX12_fillsReach (d + 3) 9 [some (.ref 226), some (.ref b1), some (.int l2), some (.int l3), some (.int l4)] [] h (fun r1 h1 => r1 = none ∧ h1 = h' ∧ G h')) := by
  obtain ⟨t10, t14⟩ := id ht1
  induction n with
  | zero => exact by intros; contradiction
  | succ n ih =>
    have s_X12_fillsReach_IH_9 := ih
    intro l2 l3 l4 h h' hF hG
    unfold W_X12_fillsReach at hF
    rw [if_pos rfl] at hF
    refine v_iload (i := 4) dX12_fillsReach_9 rfl ?_
    refine v_bipush (v := 100) dX12_fillsReach_11 (by decide) ?_
    refine v_icmp_gt 45 dX12_fillsReach_13 (by decide) (fun c1 => ?_) (fun c1 => ?_)
    · rw [if_pos c1] at hF
      refine v_return rfl dX12_fillsReach_45 ?_
      obtain rfl := Option.some.inj hF
      exact ⟨rfl, rfl, hG⟩
    · rw [if_neg c1] at hF
      refine v_aload_n (i := 1) dX12_fillsReach_16 rfl rfl ?_
      refine v_iload (i := 4) dX12_fillsReach_17 rfl ?_
      refine v_aload_n (i := 0) dX12_fillsReach_19 rfl rfl ?_
      refine v_aload_n (i := 1) dX12_fillsReach_20 rfl rfl ?_
      refine v_iload (i := 4) dX12_fillsReach_21 rfl ?_
      refine v_iconst (v := 1) dX12_fillsReach_23 (by decide) ?_
      refine v_isub dX12_fillsReach_24 ?_
      obtain ⟨k2, hF⟩ := ck_some hF
      refine v_iaload t10 (by exact ltG hG (by omega)) (ixO k2) dX12_fillsReach_25 ?_
      obtain ⟨q3, q3_e, hF⟩ := Option.bind_eq_some_iff.mp hF
      refine c_X12_430 rfl sh_226 (by exact ltG hG (by decide)) (Nat.le_of_ble_eq_true rfl) dX12_fillsReach_26 (s_X12_nearBits _ q3_e hG) (fun r1 h1 hq => ?_)
      obtain ⟨rfl, hq, hG⟩ := hq
      replace hq := hq.symm
      subst hq
      show V _ _ _ _ (_ :: _) _ _
      refine v_aload_n (i := 0) dX12_fillsReach_29 rfl rfl ?_
      refine v_iload_n (i := 3) dX12_fillsReach_30 rfl rfl ?_
      refine v_iload (i := 4) dX12_fillsReach_31 rfl ?_
      refine v_iadd dX12_fillsReach_33 ?_
      obtain ⟨q5, q5_e, hF⟩ := Option.bind_eq_some_iff.mp hF
      refine c_X12_433 rfl sh_226 (by exact ltG hG (by decide)) (Nat.le_of_ble_eq_true rfl) dX12_fillsReach_34 (s_X12_safeBits _ q5_e hG) (fun r1 h1 hq => ?_)
      obtain ⟨rfl, hq, hG⟩ := hq
      replace hq := hq.symm
      subst hq
      show V _ _ _ _ (_ :: _) _ _
      refine v_iand dX12_fillsReach_37 ?_
      obtain ⟨k7, hF⟩ := ck_some hF
      refine v_iastore t10 (by exact ltG hG (by omega)) (ixO k7) dX12_fillsReach_38 ?_
      refine v_iinc (i := 4) (v := (l4 + 1)) dX12_fillsReach_39 rfl rfl (by decide) (nlT rfl) ?_
      simp only [List.set_cons_zero, List.set_cons_succ]
      refine v_goto 9 dX12_fillsReach_42 (by decide) ?_
      refine V.weak (la2 := [some (.ref 226), some (.ref b1), some (.int l2), some (.int l3), some (.int (l4 + 1))]) (by simp [wk]) ?_
      exact (s_X12_fillsReach_IH_9) _ _ _ _ _ hF hG
def F_X12_fillsReach (n : Nat) (h : Hp) (b1 : Nat) (x2 : Int32) (x3 : Int32) : Option Hp := W_X12_fillsReach n 9 (wrI h b1 0 ((1 : Int32) <<< ((x2 : Int32) &&& 31))) b1 x2 x3 1
set_option maxRecDepth 100000 in
set_option maxHeartbeats 4000000 in
theorem s_X12_fillsReach (d : Nat) {n : Nat} {h : Hp} {b1 : Nat} {x2 : Int32} {x3 : Int32} {q0 : Hp} (hF : F_X12_fillsReach n h b1 x2 x3 = some q0) (hG : G h) (ht1 : ArI 101 b1) : Kc mX12_fillsReach (d + 3) [.ref 226, .ref b1, .int x2, .int x3] h (fun r1 h1 => r1 = none ∧ h1 = q0 ∧ G q0) := by
  obtain ⟨t10, t14⟩ := id ht1
  obtain ⟨h', rfl⟩ : ∃ z, z = q0 := ⟨_, rfl⟩
  have s_X12_fillsReach_IH_9 := sw_X12_fillsReach d b1 ht1 n
  unfold F_X12_fillsReach at hF
  refine Kc.of [some (.ref 226), some (.ref b1), some (.int x2), some (.int x3), none] ok_X12_fillsReach rfl (Nat.le_of_ble_eq_true rfl) ?_
  refine v_aload_n (i := 1) dX12_fillsReach_0 rfl rfl ?_
  refine v_iconst (v := 0) dX12_fillsReach_1 (by decide) ?_
  refine v_iconst (v := 1) dX12_fillsReach_2 (by decide) ?_
  refine v_iload_n (i := 2) dX12_fillsReach_3 rfl rfl ?_
  refine v_ishl dX12_fillsReach_4 ?_
  refine v_iastore t10 (by exact ltG hG (by omega)) (ixK 0 (by decide)) dX12_fillsReach_5 ?_
  refine v_iconst (v := 1) dX12_fillsReach_6 (by decide) ?_
  refine v_istore (i := 4) dX12_fillsReach_7 (by decide) (nlT rfl) ?_
  simp only [List.set_cons_zero, List.set_cons_succ]
  refine V.weak (la2 := [some (.ref 226), some (.ref b1), some (.int x2), some (.int x3), some (.int 1)]) (by simp [wk]) ?_
  exact (s_X12_fillsReach_IH_9) _ _ _ _ _ hF hG
def F_X12_fits (n : Nat) (h : Hp) (x1 : Int32) (x2 : Int32) : Option (Int32 × Hp) := ((F_X12_in n h x1 0 (hi h 226 65)).bind (fun q1 => (if (q1.1 : Int32) = 0 then some ((-1), q1.2) else ((F_X12_in n q1.2 x2 0 1).bind (fun q4 => (if (q4.1 : Int32) = 0 then some ((-1), q4.2) else (if (x2 : Int32) = 0 then ((F_X12_fitting n q4.2 x1 (-1)).bind (fun q10 => some (q10.1, q10.2))) else ((F_X12_firstFit n q4.2 x1).bind (fun q8 => some (q8.1, q8.2))))))))))
set_option maxRecDepth 100000 in
set_option maxHeartbeats 4000000 in
theorem s_X12_fits (d : Nat) {n : Nat} {h : Hp} {x1 : Int32} {x2 : Int32} {q0 : (Int32 × Hp)} (hF : F_X12_fits n h x1 x2 = some q0) (hG : G h)  : Kc mX12_fits (d + 2) [.ref 226, .int x1, .int x2] h (fun r1 h1 => r1 = some (.int q0.1) ∧ h1 = q0.2 ∧ G q0.2) := by
  obtain ⟨r, h'⟩ := q0
  unfold F_X12_fits at hF
  refine Kc.of [some (.ref 226), some (.int x1), some (.int x2)] ok_X12_fits rfl (Nat.le_of_ble_eq_true rfl) ?_
  refine v_iload_n (i := 1) dX12_fits_0 rfl rfl ?_
  refine v_iconst (v := 0) dX12_fits_1 (by decide) ?_
  refine v_aload_n (i := 0) dX12_fits_2 rfl rfl ?_
  refine g_X12_274 rfl sh_226 (by exact ltG hG (by decide)) dX12_fits_3 ?_
  obtain ⟨q1, q1_e, hF⟩ := Option.bind_eq_some_iff.mp hF
  refine c_X12_330 rfl (Nat.le_of_ble_eq_true rfl) dX12_fits_6 (s_X12_in _ q1_e hG) (fun r1 h1 hq => ?_)
  obtain ⟨rfl, hq, hG⟩ := hq
  replace hq := hq.symm
  subst hq
  show V _ _ _ _ (_ :: _) _ _
  refine v_if_eq 21 dX12_fits_9 (by decide) (fun c3 => ?_) (fun c3 => ?_)
  · rw [if_pos c3] at hF
    refine v_iconst (v := (-1)) dX12_fits_21 (by decide) ?_
    refine v_ireturn rfl dX12_fits_22 ?_
    obtain ⟨rfl, rfl⟩ := Prod.mk.inj (Option.some.inj hF)
    exact ⟨rfl, rfl, hG⟩
  · rw [if_neg c3] at hF
    refine v_iload_n (i := 2) dX12_fits_12 rfl rfl ?_
    refine v_iconst (v := 0) dX12_fits_13 (by decide) ?_
    refine v_iconst (v := 1) dX12_fits_14 (by decide) ?_
    obtain ⟨q4, q4_e, hF⟩ := Option.bind_eq_some_iff.mp hF
    refine c_X12_330 rfl (Nat.le_of_ble_eq_true rfl) dX12_fits_15 (s_X12_in _ q4_e hG) (fun r1 h1 hq => ?_)
    obtain ⟨rfl, hq, hG⟩ := hq
    replace hq := hq.symm
    subst hq
    show V _ _ _ _ (_ :: _) _ _
    refine v_if_ne 23 dX12_fits_18 (by decide) (fun c6 => ?_) (fun c6 => ?_)
    · rw [if_neg c6] at hF
      refine v_iload_n (i := 2) dX12_fits_23 rfl rfl ?_
      refine v_if_ne 36 dX12_fits_24 (by decide) (fun c7 => ?_) (fun c7 => ?_)
      · rw [if_neg c7] at hF
        refine v_aload_n (i := 0) dX12_fits_36 rfl rfl ?_
        refine v_iload_n (i := 1) dX12_fits_37 rfl rfl ?_
        obtain ⟨q8, q8_e, hF⟩ := Option.bind_eq_some_iff.mp hF
        refine c_X12_504 rfl sh_226 (by exact ltG hG (by decide)) (Nat.le_of_ble_eq_true rfl) dX12_fits_38 (s_X12_firstFit _ q8_e hG) (fun r1 h1 hq => ?_)
        obtain ⟨rfl, hq, hG⟩ := hq
        replace hq := hq.symm
        subst hq
        show V _ _ _ _ (_ :: _) _ _
        refine v_ireturn rfl dX12_fits_41 ?_
        obtain ⟨rfl, rfl⟩ := Prod.mk.inj (Option.some.inj hF)
        exact ⟨rfl, rfl, hG⟩
      · rw [if_pos c7] at hF
        refine v_aload_n (i := 0) dX12_fits_27 rfl rfl ?_
        refine v_iload_n (i := 1) dX12_fits_28 rfl rfl ?_
        refine v_iconst (v := (-1)) dX12_fits_29 (by decide) ?_
        obtain ⟨q10, q10_e, hF⟩ := Option.bind_eq_some_iff.mp hF
        refine c_X12_501 rfl sh_226 (by exact ltG hG (by decide)) (Nat.le_of_ble_eq_true rfl) dX12_fits_30 (s_X12_fitting _ q10_e hG) (fun r1 h1 hq => ?_)
        obtain ⟨rfl, hq, hG⟩ := hq
        replace hq := hq.symm
        subst hq
        show V _ _ _ _ (_ :: _) _ _
        refine v_goto 41 dX12_fits_33 (by decide) ?_
        refine v_ireturn rfl dX12_fits_41 ?_
        obtain ⟨rfl, rfl⟩ := Prod.mk.inj (Option.some.inj hF)
        exact ⟨rfl, rfl, hG⟩
    · rw [if_pos c6] at hF
      refine v_iconst (v := (-1)) dX12_fits_21 (by decide) ?_
      refine v_ireturn rfl dX12_fits_22 ?_
      obtain ⟨rfl, rfl⟩ := Prod.mk.inj (Option.some.inj hF)
      exact ⟨rfl, rfl, hG⟩
def W_X12_hold : Nat → Nat → Hp → Int32 → Int32 → Option (Int32 × Hp)
  | 0 => fun _ _ _ _ => none
  | n + 1 => fun hd h l1 l2 => (if hd = 20 then (if (63 : Int32) ≤ (l2 : Int32) then some (1, h) else (if ixOK l2 63 = true then (if ixOK ((63 * l1) + l2) 189 = true then W_X12_hold n 20 (wrI h 274 (Int32.toNatClampNeg ((63 * l1) + l2)) (hi h 262 (Int32.toNatClampNeg l2)))  l1 (l2 + 1) else none) else none)) else none)
set_option maxRecDepth 100000 in
set_option maxHeartbeats 4000000 in
theorem sw_X12_hold (d : Nat)  (n : Nat) : (∀ (l1 : Int32) (l2 : Int32) (h : Hp), ∀ (r : Int32) (h' : Hp), W_X12_hold n 20 h  l1 l2 = some (r, h') → G h → V mX12_hold (d + 1) 20 [some (.ref 226), some (.int l1), some (.int l2)] [] h (fun r1 h1 => r1 = some (.int r) ∧ h1 = h' ∧ G h')) := by
  induction n with
  | zero => exact by intros; contradiction
  | succ n ih =>
    have s_X12_hold_IH_20 := ih
    intro l1 l2 h r h' hF hG
    unfold W_X12_hold at hF
    rw [if_pos rfl] at hF
    refine v_iload_n (i := 2) dX12_hold_20 rfl rfl ?_
    refine v_bipush (v := 63) dX12_hold_21 (by decide) ?_
    refine v_icmp_ge 49 dX12_hold_23 (by decide) (fun c1 => ?_) (fun c1 => ?_)
    · rw [if_pos c1] at hF
      refine v_iconst (v := 1) dX12_hold_49 (by decide) ?_
      refine v_zreturn rfl (by decide) dX12_hold_50 ?_
      obtain ⟨rfl, rfl⟩ := Prod.mk.inj (Option.some.inj hF)
      exact ⟨rfl, rfl, hG⟩
    · rw [if_neg c1] at hF
      refine v_aload_n (i := 0) dX12_hold_26 rfl rfl ?_
      refine g_X12_161 (q := 274) rfl sh_226 (by exact ltG hG (by decide)) (by exact rG hG r0_226_69) dX12_hold_27 ?_
      refine v_bipush (v := 63) dX12_hold_30 (by decide) ?_
      refine v_iload_n (i := 1) dX12_hold_32 rfl rfl ?_
      refine v_imul dX12_hold_33 ?_
      refine v_iload_n (i := 2) dX12_hold_34 rfl rfl ?_
      refine v_iadd dX12_hold_35 ?_
      refine v_aload_n (i := 0) dX12_hold_36 rfl rfl ?_
      refine g_X12_125 (q := 262) rfl sh_226 (by exact ltG hG (by decide)) (by exact rG hG r0_226_53) dX12_hold_37 ?_
      refine v_iload_n (i := 2) dX12_hold_40 rfl rfl ?_
      obtain ⟨k2, hF⟩ := ck_some hF
      refine v_iaload sh_262 (by exact ltG hG (by decide)) (ixO k2) dX12_hold_41 ?_
      obtain ⟨k3, hF⟩ := ck_some hF
      refine v_iastore sh_274 (by exact ltG hG (by decide)) (ixO k3) dX12_hold_42 ?_
      refine v_iinc (i := 2) (v := (l2 + 1)) dX12_hold_43 rfl rfl (by decide) (nlT rfl) ?_
      simp only [List.set_cons_zero, List.set_cons_succ]
      refine v_goto 20 dX12_hold_46 (by decide) ?_
      refine V.weak (la2 := [some (.ref 226), some (.int l1), some (.int (l2 + 1))]) (by simp [wk]) ?_
      exact (s_X12_hold_IH_20) _ _ _ _ _ hF hG
def F_X12_hold (n : Nat) (h : Hp) (x1 : Int32) : Option (Int32 × Hp) := ((F_X12_in n h x1 0 2).bind (fun q4 => (if (q4.1 : Int32) = 0 then some (0, q4.2) else (if ixOK x1 3 = true then W_X12_hold n 20 (wrI q4.2 273 (Int32.toNatClampNeg x1) 1)  x1 0 else none))))
set_option maxRecDepth 100000 in
set_option maxHeartbeats 4000000 in
theorem s_X12_hold (d : Nat) {n : Nat} {h : Hp} {x1 : Int32} {q0 : (Int32 × Hp)} (hF : F_X12_hold n h x1 = some q0) (hG : G h)  : Kc mX12_hold (d + 1) [.ref 226, .int x1] h (fun r1 h1 => r1 = some (.int q0.1) ∧ h1 = q0.2 ∧ G q0.2) := by
  obtain ⟨r, h'⟩ := q0
  have s_X12_hold_IH_20 := sw_X12_hold d   n
  unfold F_X12_hold at hF
  refine Kc.of [some (.ref 226), some (.int x1), none] ok_X12_hold rfl (Nat.le_of_ble_eq_true rfl) ?_
  refine v_iload_n (i := 1) dX12_hold_0 rfl rfl ?_
  refine v_iconst (v := 0) dX12_hold_1 (by decide) ?_
  refine v_iconst (v := 2) dX12_hold_2 (by decide) ?_
  obtain ⟨q4, q4_e, hF⟩ := Option.bind_eq_some_iff.mp hF
  refine c_X12_330 rfl (Nat.le_of_ble_eq_true rfl) dX12_hold_3 (s_X12_in _ q4_e hG) (fun r1 h1 hq => ?_)
  obtain ⟨rfl, hq, hG⟩ := hq
  replace hq := hq.symm
  subst hq
  show V _ _ _ _ (_ :: _) _ _
  refine v_if_ne 11 dX12_hold_6 (by decide) (fun c6 => ?_) (fun c6 => ?_)
  · rw [if_neg c6] at hF
    refine v_aload_n (i := 0) dX12_hold_11 rfl rfl ?_
    refine g_X12_158 (q := 273) rfl sh_226 (by exact ltG hG (by decide)) (by exact rG hG r0_226_68) dX12_hold_12 ?_
    refine v_iload_n (i := 1) dX12_hold_15 rfl rfl ?_
    refine v_iconst (v := 1) dX12_hold_16 (by decide) ?_
    obtain ⟨k7, hF⟩ := ck_some hF
    refine v_zastore sh_273 (by exact ltG hG (by decide)) (ixO k7) dX12_hold_17 ?_
    refine v_iconst (v := 0) dX12_hold_18 (by decide) ?_
    refine v_istore_n (i := 2) dX12_hold_19 rfl (by decide) (nlT rfl) ?_
    simp only [List.set_cons_zero, List.set_cons_succ]
    refine V.weak (la2 := [some (.ref 226), some (.int x1), some (.int 0)]) (by simp [wk]) ?_
    exact (s_X12_hold_IH_20) _ _ _ _ _ hF hG
  · rw [if_pos c6] at hF
    refine v_iconst (v := 0) dX12_hold_9 (by decide) ?_
    refine v_zreturn rfl (by decide) dX12_hold_10 ?_
    obtain ⟨rfl, rfl⟩ := Prod.mk.inj (Option.some.inj hF)
    exact ⟨rfl, rfl, hG⟩
