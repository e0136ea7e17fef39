def F_X12_sign (n : Nat) (h : Hp) (x1 : Int32) (x2 : Int32) (x3 : Int32) : Option (Int32 × Hp) := (if (x2 : Int32) = (59 : Int32) then (if (x2 : Int32) = (43 : Int32) then (if (x2 : Int32) = (45 : Int32) then (if (x2 : Int32) = (42 : Int32) then (if (x2 : Int32) = (47 : Int32) then (if (x2 : Int32) = (60 : Int32) then ((F_X12_token n h 13 x1 0 0).bind (fun q478 => some (1, q478))) else ((F_X12_token n h 15 x1 0 0).bind (fun q476 => some (1, q476)))) else (if (x2 : Int32) = (60 : Int32) then ((F_X12_token n h 13 x1 0 0).bind (fun q473 => some (1, q473))) else ((F_X12_token n h 10 x1 0 0).bind (fun q471 => some (1, q471))))) else (if (x2 : Int32) = (47 : Int32) then (if (x2 : Int32) = (60 : Int32) then ((F_X12_token n h 13 x1 0 0).bind (fun q467 => some (1, q467))) else ((F_X12_token n h 15 x1 0 0).bind (fun q465 => some (1, q465)))) else (if (x2 : Int32) = (60 : Int32) then ((F_X12_token n h 13 x1 0 0).bind (fun q462 => some (1, q462))) else ((F_X12_token n h 9 x1 0 0).bind (fun q460 => some (1, q460)))))) else (if (x2 : Int32) = (42 : Int32) then (if (x2 : Int32) = (47 : Int32) then (if (x2 : Int32) = (60 : Int32) then ((F_X12_token n h 13 x1 0 0).bind (fun q455 => some (1, q455))) else ((F_X12_token n h 15 x1 0 0).bind (fun q453 => some (1, q453)))) else (if (x2 : Int32) = (60 : Int32) then ((F_X12_token n h 13 x1 0 0).bind (fun q450 => some (1, q450))) else ((F_X12_token n h 10 x1 0 0).bind (fun q448 => some (1, q448))))) else (if (x2 : Int32) = (47 : Int32) then (if (x2 : Int32) = (60 : Int32) then ((F_X12_token n h 13 x1 0 0).bind (fun q444 => some (1, q444))) else ((F_X12_token n h 15 x1 0 0).bind (fun q442 => some (1, q442)))) else (if (x2 : Int32) = (60 : Int32) then ((F_X12_token n h 13 x1 0 0).bind (fun q439 => some (1, q439))) else ((F_X12_token n h 8 x1 0 0).bind (fun q437 => some (1, q437))))))) else (if (x2 : Int32) = (45 : Int32) then (if (x2 : Int32) = (42 : Int32) then (if (x2 : Int32) = (47 : Int32) then (if (x2 : Int32) = (60 : Int32) then ((F_X12_token n h 13 x1 0 0).bind (fun q431 => some (1, q431))) else ((F_X12_token n h 15 x1 0 0).bind (fun q429 => some (1, q429)))) else (if (x2 : Int32) = (60 : Int32) then ((F_X12_token n h 13 x1 0 0).bind (fun q426 => some (1, q426))) else ((F_X12_token n h 10 x1 0 0).bind (fun q424 => some (1, q424))))) else (if (x2 : Int32) = (47 : Int32) then (if (x2 : Int32) = (60 : Int32) then ((F_X12_token n h 13 x1 0 0).bind (fun q420 => some (1, q420))) else ((F_X12_token n h 15 x1 0 0).bind (fun q418 => some (1, q418)))) else (if (x2 : Int32) = (60 : Int32) then ((F_X12_token n h 13 x1 0 0).bind (fun q415 => some (1, q415))) else ((F_X12_token n h 9 x1 0 0).bind (fun q413 => some (1, q413)))))) else (if (x2 : Int32) = (42 : Int32) then (if (x2 : Int32) = (47 : Int32) then (if (x2 : Int32) = (60 : Int32) then ((F_X12_token n h 13 x1 0 0).bind (fun q408 => some (1, q408))) else ((F_X12_token n h 15 x1 0 0).bind (fun q406 => some (1, q406)))) else (if (x2 : Int32) = (60 : Int32) then ((F_X12_token n h 13 x1 0 0).bind (fun q403 => some (1, q403))) else ((F_X12_token n h 10 x1 0 0).bind (fun q401 => some (1, q401))))) else (if (x2 : Int32) = (47 : Int32) then (if (x2 : Int32) = (60 : Int32) then ((F_X12_token n h 13 x1 0 0).bind (fun q397 => some (1, q397))) else ((F_X12_token n h 15 x1 0 0).bind (fun q395 => some (1, q395)))) else (if (x2 : Int32) = (60 : Int32) then ((F_X12_token n h 13 x1 0 0).bind (fun q392 => some (1, q392))) else ((F_X12_token n h 4 x1 0 0).bind (fun q390 => some (1, q390)))))))) else (if (x2 : Int32) = (61 : Int32) then (if (x2 : Int32) = (43 : Int32) then (if (x2 : Int32) = (45 : Int32) then (if (x2 : Int32) = (42 : Int32) then (if (x2 : Int32) = (47 : Int32) then (if (x2 : Int32) = (60 : Int32) then ((F_X12_token n h 13 x1 0 0).bind (fun q383 => some (1, q383))) else ((F_X12_token n h 15 x1 0 0).bind (fun q381 => some (1, q381)))) else (if (x2 : Int32) = (60 : Int32) then ((F_X12_token n h 13 x1 0 0).bind (fun q378 => some (1, q378))) else ((F_X12_token n h 10 x1 0 0).bind (fun q376 => some (1, q376))))) else (if (x2 : Int32) = (47 : Int32) then (if (x2 : Int32) = (60 : Int32) then ((F_X12_token n h 13 x1 0 0).bind (fun q372 => some (1, q372))) else ((F_X12_token n h 15 x1 0 0).bind (fun q370 => some (1, q370)))) else (if (x2 : Int32) = (60 : Int32) then ((F_X12_token n h 13 x1 0 0).bind (fun q367 => some (1, q367))) else ((F_X12_token n h 9 x1 0 0).bind (fun q365 => some (1, q365)))))) else (if (x2 : Int32) = (42 : Int32) then (if (x2 : Int32) = (47 : Int32) then (if (x2 : Int32) = (60 : Int32) then ((F_X12_token n h 13 x1 0 0).bind (fun q360 => some (1, q360))) else ((F_X12_token n h 15 x1 0 0).bind (fun q358 => some (1, q358)))) else (if (x2 : Int32) = (60 : Int32) then ((F_X12_token n h 13 x1 0 0).bind (fun q355 => some (1, q355))) else ((F_X12_token n h 10 x1 0 0).bind (fun q353 => some (1, q353))))) else (if (x2 : Int32) = (47 : Int32) then (if (x2 : Int32) = (60 : Int32) then ((F_X12_token n h 13 x1 0 0).bind (fun q349 => some (1, q349))) else ((F_X12_token n h 15 x1 0 0).bind (fun q347 => some (1, q347)))) else (if (x2 : Int32) = (60 : Int32) then ((F_X12_token n h 13 x1 0 0).bind (fun q344 => some (1, q344))) else ((F_X12_token n h 8 x1 0 0).bind (fun q342 => some (1, q342))))))) else (if (x2 : Int32) = (45 : Int32) then (if (x2 : Int32) = (42 : Int32) then (if (x2 : Int32) = (47 : Int32) then (if (x2 : Int32) = (60 : Int32) then ((F_X12_token n h 13 x1 0 0).bind (fun q336 => some (1, q336))) else ((F_X12_token n h 15 x1 0 0).bind (fun q334 => some (1, q334)))) else (if (x2 : Int32) = (60 : Int32) then ((F_X12_token n h 13 x1 0 0).bind (fun q331 => some (1, q331))) else ((F_X12_token n h 10 x1 0 0).bind (fun q329 => some (1, q329))))) else (if (x2 : Int32) = (47 : Int32) then (if (x2 : Int32) = (60 : Int32) then ((F_X12_token n h 13 x1 0 0).bind (fun q325 => some (1, q325))) else ((F_X12_token n h 15 x1 0 0).bind (fun q323 => some (1, q323)))) else (if (x2 : Int32) = (60 : Int32) then ((F_X12_token n h 13 x1 0 0).bind (fun q320 => some (1, q320))) else ((F_X12_token n h 9 x1 0 0).bind (fun q318 => some (1, q318)))))) else (if (x2 : Int32) = (42 : Int32) then (if (x2 : Int32) = (47 : Int32) then (if (x2 : Int32) = (60 : Int32) then ((F_X12_token n h 13 x1 0 0).bind (fun q313 => some (1, q313))) else ((F_X12_token n h 15 x1 0 0).bind (fun q311 => some (1, q311)))) else (if (x2 : Int32) = (60 : Int32) then ((F_X12_token n h 13 x1 0 0).bind (fun q308 => some (1, q308))) else ((F_X12_token n h 10 x1 0 0).bind (fun q306 => some (1, q306))))) else (if (x2 : Int32) = (47 : Int32) then (if (x2 : Int32) = (60 : Int32) then ((F_X12_token n h 13 x1 0 0).bind (fun q302 => some (1, q302))) else ((F_X12_token n h 15 x1 0 0).bind (fun q300 => some (1, q300)))) else (if (x2 : Int32) = (60 : Int32) then ((F_X12_token n h 13 x1 0 0).bind (fun q297 => some (1, q297))) else ((F_X12_token n h 5 x1 0 0).bind (fun q295 => some (1, q295)))))))) else (if (x2 : Int32) = (40 : Int32) then (if (x2 : Int32) = (43 : Int32) then (if (x2 : Int32) = (45 : Int32) then (if (x2 : Int32) = (42 : Int32) then (if (x2 : Int32) = (47 : Int32) then (if (x2 : Int32) = (60 : Int32) then ((F_X12_token n h 13 x1 0 0).bind (fun q288 => some (1, q288))) else ((F_X12_token n h 15 x1 0 0).bind (fun q286 => some (1, q286)))) else (if (x2 : Int32) = (60 : Int32) then ((F_X12_token n h 13 x1 0 0).bind (fun q283 => some (1, q283))) else ((F_X12_token n h 10 x1 0 0).bind (fun q281 => some (1, q281))))) else (if (x2 : Int32) = (47 : Int32) then (if (x2 : Int32) = (60 : Int32) then ((F_X12_token n h 13 x1 0 0).bind (fun q277 => some (1, q277))) else ((F_X12_token n h 15 x1 0 0).bind (fun q275 => some (1, q275)))) else (if (x2 : Int32) = (60 : Int32) then ((F_X12_token n h 13 x1 0 0).bind (fun q272 => some (1, q272))) else ((F_X12_token n h 9 x1 0 0).bind (fun q270 => some (1, q270)))))) else (if (x2 : Int32) = (42 : Int32) then (if (x2 : Int32) = (47 : Int32) then (if (x2 : Int32) = (60 : Int32) then ((F_X12_token n h 13 x1 0 0).bind (fun q265 => some (1, q265))) else ((F_X12_token n h 15 x1 0 0).bind (fun q263 => some (1, q263)))) else (if (x2 : Int32) = (60 : Int32) then ((F_X12_token n h 13 x1 0 0).bind (fun q260 => some (1, q260))) else ((F_X12_token n h 10 x1 0 0).bind (fun q258 => some (1, q258))))) else (if (x2 : Int32) = (47 : Int32) then (if (x2 : Int32) = (60 : Int32) then ((F_X12_token n h 13 x1 0 0).bind (fun q254 => some (1, q254))) else ((F_X12_token n h 15 x1 0 0).bind (fun q252 => some (1, q252)))) else (if (x2 : Int32) = (60 : Int32) then ((F_X12_token n h 13 x1 0 0).bind (fun q249 => some (1, q249))) else ((F_X12_token n h 8 x1 0 0).bind (fun q247 => some (1, q247))))))) else (if (x2 : Int32) = (45 : Int32) then (if (x2 : Int32) = (42 : Int32) then (if (x2 : Int32) = (47 : Int32) then (if (x2 : Int32) = (60 : Int32) then ((F_X12_token n h 13 x1 0 0).bind (fun q241 => some (1, q241))) else ((F_X12_token n h 15 x1 0 0).bind (fun q239 => some (1, q239)))) else (if (x2 : Int32) = (60 : Int32) then ((F_X12_token n h 13 x1 0 0).bind (fun q236 => some (1, q236))) else ((F_X12_token n h 10 x1 0 0).bind (fun q234 => some (1, q234))))) else (if (x2 : Int32) = (47 : Int32) then (if (x2 : Int32) = (60 : Int32) then ((F_X12_token n h 13 x1 0 0).bind (fun q230 => some (1, q230))) else ((F_X12_token n h 15 x1 0 0).bind (fun q228 => some (1, q228)))) else (if (x2 : Int32) = (60 : Int32) then ((F_X12_token n h 13 x1 0 0).bind (fun q225 => some (1, q225))) else ((F_X12_token n h 9 x1 0 0).bind (fun q223 => some (1, q223)))))) else (if (x2 : Int32) = (42 : Int32) then (if (x2 : Int32) = (47 : Int32) then (if (x2 : Int32) = (60 : Int32) then ((F_X12_token n h 13 x1 0 0).bind (fun q218 => some (1, q218))) else ((F_X12_token n h 15 x1 0 0).bind (fun q216 => some (1, q216)))) else (if (x2 : Int32) = (60 : Int32) then ((F_X12_token n h 13 x1 0 0).bind (fun q213 => some (1, q213))) else ((F_X12_token n h 10 x1 0 0).bind (fun q211 => some (1, q211))))) else (if (x2 : Int32) = (47 : Int32) then (if (x2 : Int32) = (60 : Int32) then ((F_X12_token n h 13 x1 0 0).bind (fun q207 => some (1, q207))) else ((F_X12_token n h 15 x1 0 0).bind (fun q205 => some (1, q205)))) else (if (x2 : Int32) = (60 : Int32) then ((F_X12_token n h 13 x1 0 0).bind (fun q202 => some (1, q202))) else ((F_X12_token n h 6 x1 0 0).bind (fun q200 => some (1, q200)))))))) else (if (x2 : Int32) = (41 : Int32) then (if (x2 : Int32) = (43 : Int32) then (if (x2 : Int32) = (45 : Int32) then (if (x2 : Int32) = (42 : Int32) then (if (x2 : Int32) = (47 : Int32) then (if (x2 : Int32) = (60 : Int32) then ((F_X12_token n h 13 x1 0 0).bind (fun q193 => some (1, q193))) else ((F_X12_token n h 15 x1 0 0).bind (fun q191 => some (1, q191)))) else (if (x2 : Int32) = (60 : Int32) then ((F_X12_token n h 13 x1 0 0).bind (fun q188 => some (1, q188))) else ((F_X12_token n h 10 x1 0 0).bind (fun q186 => some (1, q186))))) else (if (x2 : Int32) = (47 : Int32) then (if (x2 : Int32) = (60 : Int32) then ((F_X12_token n h 13 x1 0 0).bind (fun q182 => some (1, q182))) else ((F_X12_token n h 15 x1 0 0).bind (fun q180 => some (1, q180)))) else (if (x2 : Int32) = (60 : Int32) then ((F_X12_token n h 13 x1 0 0).bind (fun q177 => some (1, q177))) else ((F_X12_token n h 9 x1 0 0).bind (fun q175 => some (1, q175)))))) else (if (x2 : Int32) = (42 : Int32) then (if (x2 : Int32) = (47 : Int32) then (if (x2 : Int32) = (60 : Int32) then ((F_X12_token n h 13 x1 0 0).bind (fun q170 => some (1, q170))) else ((F_X12_token n h 15 x1 0 0).bind (fun q168 => some (1, q168)))) else (if (x2 : Int32) = (60 : Int32) then ((F_X12_token n h 13 x1 0 0).bind (fun q165 => some (1, q165))) else ((F_X12_token n h 10 x1 0 0).bind (fun q163 => some (1, q163))))) else (if (x2 : Int32) = (47 : Int32) then (if (x2 : Int32) = (60 : Int32) then ((F_X12_token n h 13 x1 0 0).bind (fun q159 => some (1, q159))) else ((F_X12_token n h 15 x1 0 0).bind (fun q157 => some (1, q157)))) else (if (x2 : Int32) = (60 : Int32) then ((F_X12_token n h 13 x1 0 0).bind (fun q154 => some (1, q154))) else ((F_X12_token n h 8 x1 0 0).bind (fun q152 => some (1, q152))))))) else (if (x2 : Int32) = (45 : Int32) then (if (x2 : Int32) = (42 : Int32) then (if (x2 : Int32) = (47 : Int32) then (if (x2 : Int32) = (60 : Int32) then ((F_X12_token n h 13 x1 0 0).bind (fun q146 => some (1, q146))) else ((F_X12_token n h 15 x1 0 0).bind (fun q144 => some (1, q144)))) else (if (x2 : Int32) = (60 : Int32) then ((F_X12_token n h 13 x1 0 0).bind (fun q141 => some (1, q141))) else ((F_X12_token n h 10 x1 0 0).bind (fun q139 => some (1, q139))))) else (if (x2 : Int32) = (47 : Int32) then (if (x2 : Int32) = (60 : Int32) then ((F_X12_token n h 13 x1 0 0).bind (fun q135 => some (1, q135))) else ((F_X12_token n h 15 x1 0 0).bind (fun q133 => some (1, q133)))) else (if (x2 : Int32) = (60 : Int32) then ((F_X12_token n h 13 x1 0 0).bind (fun q130 => some (1, q130))) else ((F_X12_token n h 9 x1 0 0).bind (fun q128 => some (1, q128)))))) else (if (x2 : Int32) = (42 : Int32) then (if (x2 : Int32) = (47 : Int32) then (if (x2 : Int32) = (60 : Int32) then ((F_X12_token n h 13 x1 0 0).bind (fun q123 => some (1, q123))) else ((F_X12_token n h 15 x1 0 0).bind (fun q121 => some (1, q121)))) else (if (x2 : Int32) = (60 : Int32) then ((F_X12_token n h 13 x1 0 0).bind (fun q118 => some (1, q118))) else ((F_X12_token n h 10 x1 0 0).bind (fun q116 => some (1, q116))))) else (if (x2 : Int32) = (47 : Int32) then (if (x2 : Int32) = (60 : Int32) then ((F_X12_token n h 13 x1 0 0).bind (fun q112 => some (1, q112))) else ((F_X12_token n h 15 x1 0 0).bind (fun q110 => some (1, q110)))) else (if (x2 : Int32) = (60 : Int32) then ((F_X12_token n h 13 x1 0 0).bind (fun q107 => some (1, q107))) else ((F_X12_token n h 7 x1 0 0).bind (fun q105 => some (1, q105)))))))) else (if (x2 : Int32) = (43 : Int32) then (if (x2 : Int32) = (45 : Int32) then (if (x2 : Int32) = (42 : Int32) then (if (x2 : Int32) = (47 : Int32) then (if (x2 : Int32) = (60 : Int32) then ((F_X12_token n h 13 x1 0 0).bind (fun q98 => some (1, q98))) else ((F_X12_token n h 15 x1 0 0).bind (fun q96 => some (1, q96)))) else (if (x2 : Int32) = (60 : Int32) then ((F_X12_token n h 13 x1 0 0).bind (fun q93 => some (1, q93))) else ((F_X12_token n h 10 x1 0 0).bind (fun q91 => some (1, q91))))) else (if (x2 : Int32) = (47 : Int32) then (if (x2 : Int32) = (60 : Int32) then ((F_X12_token n h 13 x1 0 0).bind (fun q87 => some (1, q87))) else ((F_X12_token n h 15 x1 0 0).bind (fun q85 => some (1, q85)))) else (if (x2 : Int32) = (60 : Int32) then ((F_X12_token n h 13 x1 0 0).bind (fun q82 => some (1, q82))) else ((F_X12_token n h 9 x1 0 0).bind (fun q80 => some (1, q80)))))) else (if (x2 : Int32) = (42 : Int32) then (if (x2 : Int32) = (47 : Int32) then (if (x2 : Int32) = (60 : Int32) then ((F_X12_token n h 13 x1 0 0).bind (fun q75 => some (1, q75))) else ((F_X12_token n h 15 x1 0 0).bind (fun q73 => some (1, q73)))) else (if (x2 : Int32) = (60 : Int32) then ((F_X12_token n h 13 x1 0 0).bind (fun q70 => some (1, q70))) else ((F_X12_token n h 10 x1 0 0).bind (fun q68 => some (1, q68))))) else (if (x2 : Int32) = (47 : Int32) then (if (x2 : Int32) = (60 : Int32) then ((F_X12_token n h 13 x1 0 0).bind (fun q64 => some (1, q64))) else ((F_X12_token n h 15 x1 0 0).bind (fun q62 => some (1, q62)))) else (if (x2 : Int32) = (60 : Int32) then ((F_X12_token n h 13 x1 0 0).bind (fun q59 => some (1, q59))) else ((F_X12_token n h 8 x1 0 0).bind (fun q57 => some (1, q57))))))) else (if (x2 : Int32) = (45 : Int32) then (if (x2 : Int32) = (42 : Int32) then (if (x2 : Int32) = (47 : Int32) then (if (x2 : Int32) = (60 : Int32) then ((F_X12_token n h 13 x1 0 0).bind (fun q51 => some (1, q51))) else ((F_X12_token n h 15 x1 0 0).bind (fun q49 => some (1, q49)))) else (if (x2 : Int32) = (60 : Int32) then ((F_X12_token n h 13 x1 0 0).bind (fun q46 => some (1, q46))) else ((F_X12_token n h 10 x1 0 0).bind (fun q44 => some (1, q44))))) else (if (x2 : Int32) = (47 : Int32) then (if (x2 : Int32) = (60 : Int32) then ((F_X12_token n h 13 x1 0 0).bind (fun q40 => some (1, q40))) else ((F_X12_token n h 15 x1 0 0).bind (fun q38 => some (1, q38)))) else (if (x2 : Int32) = (60 : Int32) then ((F_X12_token n h 13 x1 0 0).bind (fun q35 => some (1, q35))) else ((F_X12_token n h 9 x1 0 0).bind (fun q33 => some (1, q33)))))) else (if (x2 : Int32) = (42 : Int32) then (if (x2 : Int32) = (47 : Int32) then (if (x2 : Int32) = (60 : Int32) then ((F_X12_token n h 13 x1 0 0).bind (fun q28 => some (1, q28))) else ((F_X12_token n h 15 x1 0 0).bind (fun q26 => some (1, q26)))) else (if (x2 : Int32) = (60 : Int32) then ((F_X12_token n h 13 x1 0 0).bind (fun q23 => some (1, q23))) else ((F_X12_token n h 10 x1 0 0).bind (fun q21 => some (1, q21))))) else (if (x2 : Int32) = (47 : Int32) then (if (x2 : Int32) = (60 : Int32) then ((F_X12_token n h 13 x1 0 0).bind (fun q17 => some (1, q17))) else ((F_X12_token n h 15 x1 0 0).bind (fun q15 => some (1, q15)))) else (if (x2 : Int32) = (60 : Int32) then ((F_X12_token n h 13 x1 0 0).bind (fun q12 => some (1, q12))) else ((F_X12_token n h 3 x1 0 0).bind (fun q10 => some (1, q10))))))))))))
set_option maxRecDepth 100000 in
set_option maxHeartbeats 4000000 in
theorem s_X12_sign (d : Nat) {n : Nat} {h : Hp} {x1 : Int32} {x2 : Int32} {x3 : Int32} {q0 : (Int32 × Hp)} (hF : F_X12_sign n h x1 x2 x3 = some q0) (hG : G h)  : Kc mX12_sign (d + 1) [.ref 226, .int x1, .int x2, .int x3] h (fun r1 h1 => r1 = some (.int q0.1) ∧ h1 = q0.2 ∧ G q0.2) := by
  obtain ⟨r, h'⟩ := q0
  unfold F_X12_sign at hF
  refine Kc.of [some (.ref 226), some (.int x1), some (.int x2), some (.int x3), none] ok_X12_sign rfl (Nat.le_of_ble_eq_true rfl) ?_
  refine v_iload_n (i := 2) dX12_sign_0 rfl rfl ?_
  refine v_bipush (v := 59) dX12_sign_1 (by decide) ?_
  refine v_icmp_ne 10 dX12_sign_3 (by decide) (fun c1 => ?_) (fun c1 => ?_)
  · rw [if_neg c1] at hF
    refine v_iload_n (i := 2) dX12_sign_10 rfl rfl ?_
    refine v_bipush (v := 61) dX12_sign_11 (by decide) ?_
    refine v_icmp_ne 20 dX12_sign_13 (by decide) (fun c2 => ?_) (fun c2 => ?_)
    · rw [if_neg c2] at hF
      refine v_iload_n (i := 2) dX12_sign_20 rfl rfl ?_
      refine v_bipush (v := 40) dX12_sign_21 (by decide) ?_
      refine v_icmp_ne 31 dX12_sign_23 (by decide) (fun c3 => ?_) (fun c3 => ?_)
      · rw [if_neg c3] at hF
        refine v_iload_n (i := 2) dX12_sign_31 rfl rfl ?_
        refine v_bipush (v := 41) dX12_sign_32 (by decide) ?_
        refine v_icmp_ne 42 dX12_sign_34 (by decide) (fun c4 => ?_) (fun c4 => ?_)
        · rw [if_neg c4] at hF
          refine v_iconst (v := 3) dX12_sign_42 (by decide) ?_
          refine v_istore (i := 4) dX12_sign_43 (by decide) (nlT rfl) ?_
          simp only [List.set_cons_zero, List.set_cons_succ]
          refine v_iload_n (i := 2) dX12_sign_45 rfl rfl ?_
          refine v_bipush (v := 43) dX12_sign_46 (by decide) ?_
          refine v_icmp_ne 55 dX12_sign_48 (by decide) (fun c5 => ?_) (fun c5 => ?_)
          · rw [if_neg c5] at hF
            refine v_iload_n (i := 2) dX12_sign_55 rfl rfl ?_
            refine v_bipush (v := 45) dX12_sign_56 (by decide) ?_
            refine v_icmp_ne 65 dX12_sign_58 (by decide) (fun c6 => ?_) (fun c6 => ?_)
            · rw [if_neg c6] at hF
              refine v_iload_n (i := 2) dX12_sign_65 rfl rfl ?_
              refine v_bipush (v := 42) dX12_sign_66 (by decide) ?_
              refine v_icmp_ne 75 dX12_sign_68 (by decide) (fun c7 => ?_) (fun c7 => ?_)
              · rw [if_neg c7] at hF
                refine v_iload_n (i := 2) dX12_sign_75 rfl rfl ?_
                refine v_bipush (v := 47) dX12_sign_76 (by decide) ?_
                refine v_icmp_ne 85 dX12_sign_78 (by decide) (fun c8 => ?_) (fun c8 => ?_)
                · rw [if_neg c8] at hF
                  refine v_iload_n (i := 2) dX12_sign_85 rfl rfl ?_
                  refine v_bipush (v := 60) dX12_sign_86 (by decide) ?_
                  refine v_icmp_ne 95 dX12_sign_88 (by decide) (fun c9 => ?_) (fun c9 => ?_)
                  · rw [if_neg c9] at hF
                    refine v_aload_n (i := 0) dX12_sign_95 rfl rfl ?_
                    refine v_iload (i := 4) dX12_sign_96 rfl ?_
                    refine v_iload_n (i := 1) dX12_sign_98 rfl rfl ?_
                    refine v_iconst (v := 0) dX12_sign_99 (by decide) ?_
                    refine v_lconst (v := 0) dX12_sign_100 (by decide) ?_
                    obtain ⟨q10, q10_e, hF⟩ := Option.bind_eq_some_iff.mp hF
                    refine c_X12_200 rfl sh_226 (by exact ltG hG (by decide)) (Nat.le_of_ble_eq_true rfl) dX12_sign_101 (s_X12_token _ q10_e hG) (fun r1 h1 hq => ?_)
                    obtain ⟨rfl, hq, hG⟩ := hq
                    replace hq := hq.symm
                    subst hq
                    simp only [Option.toList, List.nil_append]
                    refine v_iconst (v := 1) dX12_sign_104 (by decide) ?_
                    refine v_ireturn rfl dX12_sign_105 ?_
                    obtain ⟨rfl, rfl⟩ := Prod.mk.inj (Option.some.inj hF)
                    exact ⟨rfl, rfl, hG⟩
                  · rw [if_pos c9] at hF
                    refine v_bipush (v := 13) dX12_sign_91 (by decide) ?_
                    refine v_istore (i := 4) dX12_sign_93 (by decide) (nlT rfl) ?_
                    simp only [List.set_cons_zero, List.set_cons_succ]
                    refine v_aload_n (i := 0) dX12_sign_95 rfl rfl ?_
                    refine v_iload (i := 4) dX12_sign_96 rfl ?_
                    refine v_iload_n (i := 1) dX12_sign_98 rfl rfl ?_
                    refine v_iconst (v := 0) dX12_sign_99 (by decide) ?_
                    refine v_lconst (v := 0) dX12_sign_100 (by decide) ?_
                    obtain ⟨q12, q12_e, hF⟩ := Option.bind_eq_some_iff.mp hF
                    refine c_X12_200 rfl sh_226 (by exact ltG hG (by decide)) (Nat.le_of_ble_eq_true rfl) dX12_sign_101 (s_X12_token _ q12_e hG) (fun r1 h1 hq => ?_)
                    obtain ⟨rfl, hq, hG⟩ := hq
                    replace hq := hq.symm
                    subst hq
                    simp only [Option.toList, List.nil_append]
                    refine v_iconst (v := 1) dX12_sign_104 (by decide) ?_
                    refine v_ireturn rfl dX12_sign_105 ?_
                    obtain ⟨rfl, rfl⟩ := Prod.mk.inj (Option.some.inj hF)
                    exact ⟨rfl, rfl, hG⟩
                · rw [if_pos c8] at hF
                  refine v_bipush (v := 15) dX12_sign_81 (by decide) ?_
                  refine v_istore (i := 4) dX12_sign_83 (by decide) (nlT rfl) ?_
                  simp only [List.set_cons_zero, List.set_cons_succ]
                  refine v_iload_n (i := 2) dX12_sign_85 rfl rfl ?_
                  refine v_bipush (v := 60) dX12_sign_86 (by decide) ?_
                  refine v_icmp_ne 95 dX12_sign_88 (by decide) (fun c14 => ?_) (fun c14 => ?_)
                  · rw [if_neg c14] at hF
                    refine v_aload_n (i := 0) dX12_sign_95 rfl rfl ?_
                    refine v_iload (i := 4) dX12_sign_96 rfl ?_
                    refine v_iload_n (i := 1) dX12_sign_98 rfl rfl ?_
                    refine v_iconst (v := 0) dX12_sign_99 (by decide) ?_
                    refine v_lconst (v := 0) dX12_sign_100 (by decide) ?_
                    obtain ⟨q15, q15_e, hF⟩ := Option.bind_eq_some_iff.mp hF
                    refine c_X12_200 rfl sh_226 (by exact ltG hG (by decide)) (Nat.le_of_ble_eq_true rfl) dX12_sign_101 (s_X12_token _ q15_e hG) (fun r1 h1 hq => ?_)
                    obtain ⟨rfl, hq, hG⟩ := hq
                    replace hq := hq.symm
                    subst hq
                    simp only [Option.toList, List.nil_append]
                    refine v_iconst (v := 1) dX12_sign_104 (by decide) ?_
                    refine v_ireturn rfl dX12_sign_105 ?_
                    obtain ⟨rfl, rfl⟩ := Prod.mk.inj (Option.some.inj hF)
                    exact ⟨rfl, rfl, hG⟩
                  · rw [if_pos c14] at hF
                    refine v_bipush (v := 13) dX12_sign_91 (by decide) ?_
                    refine v_istore (i := 4) dX12_sign_93 (by decide) (nlT rfl) ?_
                    simp only [List.set_cons_zero, List.set_cons_succ]
                    refine v_aload_n (i := 0) dX12_sign_95 rfl rfl ?_
                    refine v_iload (i := 4) dX12_sign_96 rfl ?_
                    refine v_iload_n (i := 1) dX12_sign_98 rfl rfl ?_
                    refine v_iconst (v := 0) dX12_sign_99 (by decide) ?_
                    refine v_lconst (v := 0) dX12_sign_100 (by decide) ?_
                    obtain ⟨q17, q17_e, hF⟩ := Option.bind_eq_some_iff.mp hF
                    refine c_X12_200 rfl sh_226 (by exact ltG hG (by decide)) (Nat.le_of_ble_eq_true rfl) dX12_sign_101 (s_X12_token _ q17_e hG) (fun r1 h1 hq => ?_)
                    obtain ⟨rfl, hq, hG⟩ := hq
                    replace hq := hq.symm
                    subst hq
                    simp only [Option.toList, List.nil_append]
                    refine v_iconst (v := 1) dX12_sign_104 (by decide) ?_
                    refine v_ireturn rfl dX12_sign_105 ?_
                    obtain ⟨rfl, rfl⟩ := Prod.mk.inj (Option.some.inj hF)
                    exact ⟨rfl, rfl, hG⟩
              · rw [if_pos c7] at hF
                refine v_bipush (v := 10) dX12_sign_71 (by decide) ?_
                refine v_istore (i := 4) dX12_sign_73 (by decide) (nlT rfl) ?_
                simp only [List.set_cons_zero, List.set_cons_succ]
                refine v_iload_n (i := 2) dX12_sign_75 rfl rfl ?_
                refine v_bipush (v := 47) dX12_sign_76 (by decide) ?_
                refine v_icmp_ne 85 dX12_sign_78 (by decide) (fun c19 => ?_) (fun c19 => ?_)
                · rw [if_neg c19] at hF
                  refine v_iload_n (i := 2) dX12_sign_85 rfl rfl ?_
                  refine v_bipush (v := 60) dX12_sign_86 (by decide) ?_
                  refine v_icmp_ne 95 dX12_sign_88 (by decide) (fun c20 => ?_) (fun c20 => ?_)
                  · rw [if_neg c20] at hF
                    refine v_aload_n (i := 0) dX12_sign_95 rfl rfl ?_
                    refine v_iload (i := 4) dX12_sign_96 rfl ?_
                    refine v_iload_n (i := 1) dX12_sign_98 rfl rfl ?_
                    refine v_iconst (v := 0) dX12_sign_99 (by decide) ?_
                    refine v_lconst (v := 0) dX12_sign_100 (by decide) ?_
                    obtain ⟨q21, q21_e, hF⟩ := Option.bind_eq_some_iff.mp hF
                    refine c_X12_200 rfl sh_226 (by exact ltG hG (by decide)) (Nat.le_of_ble_eq_true rfl) dX12_sign_101 (s_X12_token _ q21_e hG) (fun r1 h1 hq => ?_)
                    obtain ⟨rfl, hq, hG⟩ := hq
                    replace hq := hq.symm
                    subst hq
                    simp only [Option.toList, List.nil_append]
                    refine v_iconst (v := 1) dX12_sign_104 (by decide) ?_
                    refine v_ireturn rfl dX12_sign_105 ?_
                    obtain ⟨rfl, rfl⟩ := Prod.mk.inj (Option.some.inj hF)
                    exact ⟨rfl, rfl, hG⟩
                  · rw [if_pos c20] at hF
                    refine v_bipush (v := 13) dX12_sign_91 (by decide) ?_
                    refine v_istore (i := 4) dX12_sign_93 (by decide) (nlT rfl) ?_
                    simp only [List.set_cons_zero, List.set_cons_succ]
                    refine v_aload_n (i := 0) dX12_sign_95 rfl rfl ?_
                    refine v_iload (i := 4) dX12_sign_96 rfl ?_
                    refine v_iload_n (i := 1) dX12_sign_98 rfl rfl ?_
                    refine v_iconst (v := 0) dX12_sign_99 (by decide) ?_
                    refine v_lconst (v := 0) dX12_sign_100 (by decide) ?_
                    obtain ⟨q23, q23_e, hF⟩ := Option.bind_eq_some_iff.mp hF
                    refine c_X12_200 rfl sh_226 (by exact ltG hG (by decide)) (Nat.le_of_ble_eq_true rfl) dX12_sign_101 (s_X12_token _ q23_e hG) (fun r1 h1 hq => ?_)
                    obtain ⟨rfl, hq, hG⟩ := hq
                    replace hq := hq.symm
                    subst hq
                    simp only [Option.toList, List.nil_append]
                    refine v_iconst (v := 1) dX12_sign_104 (by decide) ?_
                    refine v_ireturn rfl dX12_sign_105 ?_
                    obtain ⟨rfl, rfl⟩ := Prod.mk.inj (Option.some.inj hF)
                    exact ⟨rfl, rfl, hG⟩
                · rw [if_pos c19] at hF
                  refine v_bipush (v := 15) dX12_sign_81 (by decide) ?_
                  refine v_istore (i := 4) dX12_sign_83 (by decide) (nlT rfl) ?_
                  simp only [List.set_cons_zero, List.set_cons_succ]
                  refine v_iload_n (i := 2) dX12_sign_85 rfl rfl ?_
                  refine v_bipush (v := 60) dX12_sign_86 (by decide) ?_
                  refine v_icmp_ne 95 dX12_sign_88 (by decide) (fun c25 => ?_) (fun c25 => ?_)
                  · rw [if_neg c25] at hF
                    refine v_aload_n (i := 0) dX12_sign_95 rfl rfl ?_
                    refine v_iload (i := 4) dX12_sign_96 rfl ?_
                    refine v_iload_n (i := 1) dX12_sign_98 rfl rfl ?_
                    refine v_iconst (v := 0) dX12_sign_99 (by decide) ?_
                    refine v_lconst (v := 0) dX12_sign_100 (by decide) ?_
                    obtain ⟨q26, q26_e, hF⟩ := Option.bind_eq_some_iff.mp hF
                    refine c_X12_200 rfl sh_226 (by exact ltG hG (by decide)) (Nat.le_of_ble_eq_true rfl) dX12_sign_101 (s_X12_token _ q26_e hG) (fun r1 h1 hq => ?_)
                    obtain ⟨rfl, hq, hG⟩ := hq
                    replace hq := hq.symm
                    subst hq
                    simp only [Option.toList, List.nil_append]
                    refine v_iconst (v := 1) dX12_sign_104 (by decide) ?_
                    refine v_ireturn rfl dX12_sign_105 ?_
                    obtain ⟨rfl, rfl⟩ := Prod.mk.inj (Option.some.inj hF)
                    exact ⟨rfl, rfl, hG⟩
                  · rw [if_pos c25] at hF
                    refine v_bipush (v := 13) dX12_sign_91 (by decide) ?_
                    refine v_istore (i := 4) dX12_sign_93 (by decide) (nlT rfl) ?_
                    simp only [List.set_cons_zero, List.set_cons_succ]
                    refine v_aload_n (i := 0) dX12_sign_95 rfl rfl ?_
                    refine v_iload (i := 4) dX12_sign_96 rfl ?_
                    refine v_iload_n (i := 1) dX12_sign_98 rfl rfl ?_
                    refine v_iconst (v := 0) dX12_sign_99 (by decide) ?_
                    refine v_lconst (v := 0) dX12_sign_100 (by decide) ?_
                    obtain ⟨q28, q28_e, hF⟩ := Option.bind_eq_some_iff.mp hF
                    refine c_X12_200 rfl sh_226 (by exact ltG hG (by decide)) (Nat.le_of_ble_eq_true rfl) dX12_sign_101 (s_X12_token _ q28_e hG) (fun r1 h1 hq => ?_)
                    obtain ⟨rfl, hq, hG⟩ := hq
                    replace hq := hq.symm
                    subst hq
                    simp only [Option.toList, List.nil_append]
                    refine v_iconst (v := 1) dX12_sign_104 (by decide) ?_
                    refine v_ireturn rfl dX12_sign_105 ?_
                    obtain ⟨rfl, rfl⟩ := Prod.mk.inj (Option.some.inj hF)
                    exact ⟨rfl, rfl, hG⟩
            · rw [if_pos c6] at hF
              refine v_bipush (v := 9) dX12_sign_61 (by decide) ?_
              refine v_istore (i := 4) dX12_sign_63 (by decide) (nlT rfl) ?_
              simp only [List.set_cons_zero, List.set_cons_succ]
              refine v_iload_n (i := 2) dX12_sign_65 rfl rfl ?_
              refine v_bipush (v := 42) dX12_sign_66 (by decide) ?_
              refine v_icmp_ne 75 dX12_sign_68 (by decide) (fun c30 => ?_) (fun c30 => ?_)
              · rw [if_neg c30] at hF
                refine v_iload_n (i := 2) dX12_sign_75 rfl rfl ?_
                refine v_bipush (v := 47) dX12_sign_76 (by decide) ?_
                refine v_icmp_ne 85 dX12_sign_78 (by decide) (fun c31 => ?_) (fun c31 => ?_)
                · rw [if_neg c31] at hF
                  refine v_iload_n (i := 2) dX12_sign_85 rfl rfl ?_
                  refine v_bipush (v := 60) dX12_sign_86 (by decide) ?_
                  refine v_icmp_ne 95 dX12_sign_88 (by decide) (fun c32 => ?_) (fun c32 => ?_)
                  · rw [if_neg c32] at hF
                    refine v_aload_n (i := 0) dX12_sign_95 rfl rfl ?_
                    refine v_iload (i := 4) dX12_sign_96 rfl ?_
                    refine v_iload_n (i := 1) dX12_sign_98 rfl rfl ?_
                    refine v_iconst (v := 0) dX12_sign_99 (by decide) ?_
                    refine v_lconst (v := 0) dX12_sign_100 (by decide) ?_
                    obtain ⟨q33, q33_e, hF⟩ := Option.bind_eq_some_iff.mp hF
                    refine c_X12_200 rfl sh_226 (by exact ltG hG (by decide)) (Nat.le_of_ble_eq_true rfl) dX12_sign_101 (s_X12_token _ q33_e hG) (fun r1 h1 hq => ?_)
                    obtain ⟨rfl, hq, hG⟩ := hq
                    replace hq := hq.symm
                    subst hq
                    simp only [Option.toList, List.nil_append]
                    refine v_iconst (v := 1) dX12_sign_104 (by decide) ?_
                    refine v_ireturn rfl dX12_sign_105 ?_
                    obtain ⟨rfl, rfl⟩ := Prod.mk.inj (Option.some.inj hF)
                    exact ⟨rfl, rfl, hG⟩
                  · rw [if_pos c32] at hF
                    refine v_bipush (v := 13) dX12_sign_91 (by decide) ?_
                    refine v_istore (i := 4) dX12_sign_93 (by decide) (nlT rfl) ?_
                    simp only [List.set_cons_zero, List.set_cons_succ]
                    refine v_aload_n (i := 0) dX12_sign_95 rfl rfl ?_
                    refine v_iload (i := 4) dX12_sign_96 rfl ?_
                    refine v_iload_n (i := 1) dX12_sign_98 rfl rfl ?_
                    refine v_iconst (v := 0) dX12_sign_99 (by decide) ?_
                    refine v_lconst (v := 0) dX12_sign_100 (by decide) ?_
                    obtain ⟨q35, q35_e, hF⟩ := Option.bind_eq_some_iff.mp hF
                    refine c_X12_200 rfl sh_226 (by exact ltG hG (by decide)) (Nat.le_of_ble_eq_true rfl) dX12_sign_101 (s_X12_token _ q35_e hG) (fun r1 h1 hq => ?_)
                    obtain ⟨rfl, hq, hG⟩ := hq
                    replace hq := hq.symm
                    subst hq
                    simp only [Option.toList, List.nil_append]
                    refine v_iconst (v := 1) dX12_sign_104 (by decide) ?_
                    refine v_ireturn rfl dX12_sign_105 ?_
                    obtain ⟨rfl, rfl⟩ := Prod.mk.inj (Option.some.inj hF)
                    exact ⟨rfl, rfl, hG⟩
                · rw [if_pos c31] at hF
                  refine v_bipush (v := 15) dX12_sign_81 (by decide) ?_
                  refine v_istore (i := 4) dX12_sign_83 (by decide) (nlT rfl) ?_
                  simp only [List.set_cons_zero, List.set_cons_succ]
                  refine v_iload_n (i := 2) dX12_sign_85 rfl rfl ?_
                  refine v_bipush (v := 60) dX12_sign_86 (by decide) ?_
                  refine v_icmp_ne 95 dX12_sign_88 (by decide) (fun c37 => ?_) (fun c37 => ?_)
                  · rw [if_neg c37] at hF
                    refine v_aload_n (i := 0) dX12_sign_95 rfl rfl ?_
                    refine v_iload (i := 4) dX12_sign_96 rfl ?_
                    refine v_iload_n (i := 1) dX12_sign_98 rfl rfl ?_
                    refine v_iconst (v := 0) dX12_sign_99 (by decide) ?_
                    refine v_lconst (v := 0) dX12_sign_100 (by decide) ?_
                    obtain ⟨q38, q38_e, hF⟩ := Option.bind_eq_some_iff.mp hF
                    refine c_X12_200 rfl sh_226 (by exact ltG hG (by decide)) (Nat.le_of_ble_eq_true rfl) dX12_sign_101 (s_X12_token _ q38_e hG) (fun r1 h1 hq => ?_)
                    obtain ⟨rfl, hq, hG⟩ := hq
                    replace hq := hq.symm
                    subst hq
                    simp only [Option.toList, List.nil_append]
                    refine v_iconst (v := 1) dX12_sign_104 (by decide) ?_
                    refine v_ireturn rfl dX12_sign_105 ?_
                    obtain ⟨rfl, rfl⟩ := Prod.mk.inj (Option.some.inj hF)
                    exact ⟨rfl, rfl, hG⟩
                  · rw [if_pos c37] at hF
                    refine v_bipush (v := 13) dX12_sign_91 (by decide) ?_
                    refine v_istore (i := 4) dX12_sign_93 (by decide) (nlT rfl) ?_
                    simp only [List.set_cons_zero, List.set_cons_succ]
                    refine v_aload_n (i := 0) dX12_sign_95 rfl rfl ?_
                    refine v_iload (i := 4) dX12_sign_96 rfl ?_
                    refine v_iload_n (i := 1) dX12_sign_98 rfl rfl ?_
                    refine v_iconst (v := 0) dX12_sign_99 (by decide) ?_
                    refine v_lconst (v := 0) dX12_sign_100 (by decide) ?_
                    obtain ⟨q40, q40_e, hF⟩ := Option.bind_eq_some_iff.mp hF
                    refine c_X12_200 rfl sh_226 (by exact ltG hG (by decide)) (Nat.le_of_ble_eq_true rfl) dX12_sign_101 (s_X12_token _ q40_e hG) (fun r1 h1 hq => ?_)
                    obtain ⟨rfl, hq, hG⟩ := hq
                    replace hq := hq.symm
                    subst hq
                    simp only [Option.toList, List.nil_append]
                    refine v_iconst (v := 1) dX12_sign_104 (by decide) ?_
                    refine v_ireturn rfl dX12_sign_105 ?_
                    obtain ⟨rfl, rfl⟩ := Prod.mk.inj (Option.some.inj hF)
                    exact ⟨rfl, rfl, hG⟩
              · rw [if_pos c30] at hF
                refine v_bipush (v := 10) dX12_sign_71 (by decide) ?_
                refine v_istore (i := 4) dX12_sign_73 (by decide) (nlT rfl) ?_
                simp only [List.set_cons_zero, List.set_cons_succ]
                refine v_iload_n (i := 2) dX12_sign_75 rfl rfl ?_
                refine v_bipush (v := 47) dX12_sign_76 (by decide) ?_
                refine v_icmp_ne 85 dX12_sign_78 (by decide) (fun c42 => ?_) (fun c42 => ?_)
                · rw [if_neg c42] at hF
                  refine v_iload_n (i := 2) dX12_sign_85 rfl rfl ?_
                  refine v_bipush (v := 60) dX12_sign_86 (by decide) ?_
                  refine v_icmp_ne 95 dX12_sign_88 (by decide) (fun c43 => ?_) (fun c43 => ?_)
                  · rw [if_neg c43] at hF
                    refine v_aload_n (i := 0) dX12_sign_95 rfl rfl ?_
                    refine v_iload (i := 4) dX12_sign_96 rfl ?_
                    refine v_iload_n (i := 1) dX12_sign_98 rfl rfl ?_
                    refine v_iconst (v := 0) dX12_sign_99 (by decide) ?_
                    refine v_lconst (v := 0) dX12_sign_100 (by decide) ?_
                    obtain ⟨q44, q44_e, hF⟩ := Option.bind_eq_some_iff.mp hF
                    refine c_X12_200 rfl sh_226 (by exact ltG hG (by decide)) (Nat.le_of_ble_eq_true rfl) dX12_sign_101 (s_X12_token _ q44_e hG) (fun r1 h1 hq => ?_)
                    obtain ⟨rfl, hq, hG⟩ := hq
                    replace hq := hq.symm
                    subst hq
                    simp only [Option.toList, List.nil_append]
                    refine v_iconst (v := 1) dX12_sign_104 (by decide) ?_
                    refine v_ireturn rfl dX12_sign_105 ?_
                    obtain ⟨rfl, rfl⟩ := Prod.mk.inj (Option.some.inj hF)
                    exact ⟨rfl, rfl, hG⟩
                  · rw [if_pos c43] at hF
                    refine v_bipush (v := 13) dX12_sign_91 (by decide) ?_
                    refine v_istore (i := 4) dX12_sign_93 (by decide) (nlT rfl) ?_
                    simp only [List.set_cons_zero, List.set_cons_succ]
                    refine v_aload_n (i := 0) dX12_sign_95 rfl rfl ?_
                    refine v_iload (i := 4) dX12_sign_96 rfl ?_
                    refine v_iload_n (i := 1) dX12_sign_98 rfl rfl ?_
                    refine v_iconst (v := 0) dX12_sign_99 (by decide) ?_
                    refine v_lconst (v := 0) dX12_sign_100 (by decide) ?_
                    obtain ⟨q46, q46_e, hF⟩ := Option.bind_eq_some_iff.mp hF
                    refine c_X12_200 rfl sh_226 (by exact ltG hG (by decide)) (Nat.le_of_ble_eq_true rfl) dX12_sign_101 (s_X12_token _ q46_e hG) (fun r1 h1 hq => ?_)
                    obtain ⟨rfl, hq, hG⟩ := hq
                    replace hq := hq.symm
                    subst hq
                    simp only [Option.toList, List.nil_append]
                    refine v_iconst (v := 1) dX12_sign_104 (by decide) ?_
                    refine v_ireturn rfl dX12_sign_105 ?_
                    obtain ⟨rfl, rfl⟩ := Prod.mk.inj (Option.some.inj hF)
                    exact ⟨rfl, rfl, hG⟩
                · rw [if_pos c42] at hF
                  refine v_bipush (v := 15) dX12_sign_81 (by decide) ?_
                  refine v_istore (i := 4) dX12_sign_83 (by decide) (nlT rfl) ?_
                  simp only [List.set_cons_zero, List.set_cons_succ]
                  refine v_iload_n (i := 2) dX12_sign_85 rfl rfl ?_
                  refine v_bipush (v := 60) dX12_sign_86 (by decide) ?_
                  refine v_icmp_ne 95 dX12_sign_88 (by decide) (fun c48 => ?_) (fun c48 => ?_)
                  · rw [if_neg c48] at hF
                    refine v_aload_n (i := 0) dX12_sign_95 rfl rfl ?_
                    refine v_iload (i := 4) dX12_sign_96 rfl ?_
                    refine v_iload_n (i := 1) dX12_sign_98 rfl rfl ?_
                    refine v_iconst (v := 0) dX12_sign_99 (by decide) ?_
                    refine v_lconst (v := 0) dX12_sign_100 (by decide) ?_
                    obtain ⟨q49, q49_e, hF⟩ := Option.bind_eq_some_iff.mp hF
                    refine c_X12_200 rfl sh_226 (by exact ltG hG (by decide)) (Nat.le_of_ble_eq_true rfl) dX12_sign_101 (s_X12_token _ q49_e hG) (fun r1 h1 hq => ?_)
                    obtain ⟨rfl, hq, hG⟩ := hq
                    replace hq := hq.symm
                    subst hq
                    simp only [Option.toList, List.nil_append]
                    refine v_iconst (v := 1) dX12_sign_104 (by decide) ?_
                    refine v_ireturn rfl dX12_sign_105 ?_
                    obtain ⟨rfl, rfl⟩ := Prod.mk.inj (Option.some.inj hF)
                    exact ⟨rfl, rfl, hG⟩
                  · rw [if_pos c48] at hF
                    refine v_bipush (v := 13) dX12_sign_91 (by decide) ?_
                    refine v_istore (i := 4) dX12_sign_93 (by decide) (nlT rfl) ?_
                    simp only [List.set_cons_zero, List.set_cons_succ]
                    refine v_aload_n (i := 0) dX12_sign_95 rfl rfl ?_
                    refine v_iload (i := 4) dX12_sign_96 rfl ?_
                    refine v_iload_n (i := 1) dX12_sign_98 rfl rfl ?_
                    refine v_iconst (v := 0) dX12_sign_99 (by decide) ?_
                    refine v_lconst (v := 0) dX12_sign_100 (by decide) ?_
                    obtain ⟨q51, q51_e, hF⟩ := Option.bind_eq_some_iff.mp hF
                    refine c_X12_200 rfl sh_226 (by exact ltG hG (by decide)) (Nat.le_of_ble_eq_true rfl) dX12_sign_101 (s_X12_token _ q51_e hG) (fun r1 h1 hq => ?_)
                    obtain ⟨rfl, hq, hG⟩ := hq
                    replace hq := hq.symm
                    subst hq
                    simp only [Option.toList, List.nil_append]
                    refine v_iconst (v := 1) dX12_sign_104 (by decide) ?_
                    refine v_ireturn rfl dX12_sign_105 ?_
                    obtain ⟨rfl, rfl⟩ := Prod.mk.inj (Option.some.inj hF)
                    exact ⟨rfl, rfl, hG⟩
          · rw [if_pos c5] at hF
            refine v_bipush (v := 8) dX12_sign_51 (by decide) ?_
            refine v_istore (i := 4) dX12_sign_53 (by decide) (nlT rfl) ?_
            simp only [List.set_cons_zero, List.set_cons_succ]
            refine v_iload_n (i := 2) dX12_sign_55 rfl rfl ?_
            refine v_bipush (v := 45) dX12_sign_56 (by decide) ?_
            refine v_icmp_ne 65 dX12_sign_58 (by decide) (fun c53 => ?_) (fun c53 => ?_)
            · rw [if_neg c53] at hF
              refine v_iload_n (i := 2) dX12_sign_65 rfl rfl ?_
              refine v_bipush (v := 42) dX12_sign_66 (by decide) ?_
              refine v_icmp_ne 75 dX12_sign_68 (by decide) (fun c54 => ?_) (fun c54 => ?_)
              · rw [if_neg c54] at hF
                refine v_iload_n (i := 2) dX12_sign_75 rfl rfl ?_
                refine v_bipush (v := 47) dX12_sign_76 (by decide) ?_
                refine v_icmp_ne 85 dX12_sign_78 (by decide) (fun c55 => ?_) (fun c55 => ?_)
                · rw [if_neg c55] at hF
                  refine v_iload_n (i := 2) dX12_sign_85 rfl rfl ?_
                  refine v_bipush (v := 60) dX12_sign_86 (by decide) ?_
                  refine v_icmp_ne 95 dX12_sign_88 (by decide) (fun c56 => ?_) (fun c56 => ?_)
                  · rw [if_neg c56] at hF
                    refine v_aload_n (i := 0) dX12_sign_95 rfl rfl ?_
                    refine v_iload (i := 4) dX12_sign_96 rfl ?_
                    refine v_iload_n (i := 1) dX12_sign_98 rfl rfl ?_
                    refine v_iconst (v := 0) dX12_sign_99 (by decide) ?_
                    refine v_lconst (v := 0) dX12_sign_100 (by decide) ?_
                    obtain ⟨q57, q57_e, hF⟩ := Option.bind_eq_some_iff.mp hF
                    refine c_X12_200 rfl sh_226 (by exact ltG hG (by decide)) (Nat.le_of_ble_eq_true rfl) dX12_sign_101 (s_X12_token _ q57_e hG) (fun r1 h1 hq => ?_)
                    obtain ⟨rfl, hq, hG⟩ := hq
                    replace hq := hq.symm
                    subst hq
                    simp only [Option.toList, List.nil_append]
                    refine v_iconst (v := 1) dX12_sign_104 (by decide) ?_
                    refine v_ireturn rfl dX12_sign_105 ?_
                    obtain ⟨rfl, rfl⟩ := Prod.mk.inj (Option.some.inj hF)
                    exact ⟨rfl, rfl, hG⟩
                  · rw [if_pos c56] at hF
                    refine v_bipush (v := 13) dX12_sign_91 (by decide) ?_
                    refine v_istore (i := 4) dX12_sign_93 (by decide) (nlT rfl) ?_
                    simp only [List.set_cons_zero, List.set_cons_succ]
                    refine v_aload_n (i := 0) dX12_sign_95 rfl rfl ?_
                    refine v_iload (i := 4) dX12_sign_96 rfl ?_
                    refine v_iload_n (i := 1) dX12_sign_98 rfl rfl ?_
                    refine v_iconst (v := 0) dX12_sign_99 (by decide) ?_
                    refine v_lconst (v := 0) dX12_sign_100 (by decide) ?_
                    obtain ⟨q59, q59_e, hF⟩ := Option.bind_eq_some_iff.mp hF
                    refine c_X12_200 rfl sh_226 (by exact ltG hG (by decide)) (Nat.le_of_ble_eq_true rfl) dX12_sign_101 (s_X12_token _ q59_e hG) (fun r1 h1 hq => ?_)
                    obtain ⟨rfl, hq, hG⟩ := hq
                    replace hq := hq.symm
                    subst hq
                    simp only [Option.toList, List.nil_append]
                    refine v_iconst (v := 1) dX12_sign_104 (by decide) ?_
                    refine v_ireturn rfl dX12_sign_105 ?_
                    obtain ⟨rfl, rfl⟩ := Prod.mk.inj (Option.some.inj hF)
                    exact ⟨rfl, rfl, hG⟩
                · rw [if_pos c55] at hF
                  refine v_bipush (v := 15) dX12_sign_81 (by decide) ?_
                  refine v_istore (i := 4) dX12_sign_83 (by decide) (nlT rfl) ?_
                  simp only [List.set_cons_zero, List.set_cons_succ]
                  refine v_iload_n (i := 2) dX12_sign_85 rfl rfl ?_
                  refine v_bipush (v := 60) dX12_sign_86 (by decide) ?_
                  refine v_icmp_ne 95 dX12_sign_88 (by decide) (fun c61 => ?_) (fun c61 => ?_)
                  · rw [if_neg c61] at hF
                    refine v_aload_n (i := 0) dX12_sign_95 rfl rfl ?_
                    refine v_iload (i := 4) dX12_sign_96 rfl ?_
                    refine v_iload_n (i := 1) dX12_sign_98 rfl rfl ?_
                    refine v_iconst (v := 0) dX12_sign_99 (by decide) ?_
                    refine v_lconst (v := 0) dX12_sign_100 (by decide) ?_
                    obtain ⟨q62, q62_e, hF⟩ := Option.bind_eq_some_iff.mp hF
                    refine c_X12_200 rfl sh_226 (by exact ltG hG (by decide)) (Nat.le_of_ble_eq_true rfl) dX12_sign_101 (s_X12_token _ q62_e hG) (fun r1 h1 hq => ?_)
                    obtain ⟨rfl, hq, hG⟩ := hq
                    replace hq := hq.symm
                    subst hq
                    simp only [Option.toList, List.nil_append]
                    refine v_iconst (v := 1) dX12_sign_104 (by decide) ?_
                    refine v_ireturn rfl dX12_sign_105 ?_
                    obtain ⟨rfl, rfl⟩ := Prod.mk.inj (Option.some.inj hF)
                    exact ⟨rfl, rfl, hG⟩
                  · rw [if_pos c61] at hF
                    refine v_bipush (v := 13) dX12_sign_91 (by decide) ?_
                    refine v_istore (i := 4) dX12_sign_93 (by decide) (nlT rfl) ?_
                    simp only [List.set_cons_zero, List.set_cons_succ]
                    refine v_aload_n (i := 0) dX12_sign_95 rfl rfl ?_
                    refine v_iload (i := 4) dX12_sign_96 rfl ?_
                    refine v_iload_n (i := 1) dX12_sign_98 rfl rfl ?_
                    refine v_iconst (v := 0) dX12_sign_99 (by decide) ?_
                    refine v_lconst (v := 0) dX12_sign_100 (by decide) ?_
                    obtain ⟨q64, q64_e, hF⟩ := Option.bind_eq_some_iff.mp hF
                    refine c_X12_200 rfl sh_226 (by exact ltG hG (by decide)) (Nat.le_of_ble_eq_true rfl) dX12_sign_101 (s_X12_token _ q64_e hG) (fun r1 h1 hq => ?_)
                    obtain ⟨rfl, hq, hG⟩ := hq
                    replace hq := hq.symm
                    subst hq
                    simp only [Option.toList, List.nil_append]
                    refine v_iconst (v := 1) dX12_sign_104 (by decide) ?_
                    refine v_ireturn rfl dX12_sign_105 ?_
                    obtain ⟨rfl, rfl⟩ := Prod.mk.inj (Option.some.inj hF)
                    exact ⟨rfl, rfl, hG⟩
              · rw [if_pos c54] at hF
                refine v_bipush (v := 10) dX12_sign_71 (by decide) ?_
                refine v_istore (i := 4) dX12_sign_73 (by decide) (nlT rfl) ?_
                simp only [List.set_cons_zero, List.set_cons_succ]
                refine v_iload_n (i := 2) dX12_sign_75 rfl rfl ?_
                refine v_bipush (v := 47) dX12_sign_76 (by decide) ?_
                refine v_icmp_ne 85 dX12_sign_78 (by decide) (fun c66 => ?_) (fun c66 => ?_)
                · rw [if_neg c66] at hF
                  refine v_iload_n (i := 2) dX12_sign_85 rfl rfl ?_
                  refine v_bipush (v := 60) dX12_sign_86 (by decide) ?_
                  refine v_icmp_ne 95 dX12_sign_88 (by decide) (fun c67 => ?_) (fun c67 => ?_)
                  · rw [if_neg c67] at hF
                    refine v_aload_n (i := 0) dX12_sign_95 rfl rfl ?_
                    refine v_iload (i := 4) dX12_sign_96 rfl ?_
                    refine v_iload_n (i := 1) dX12_sign_98 rfl rfl ?_
                    refine v_iconst (v := 0) dX12_sign_99 (by decide) ?_
                    refine v_lconst (v := 0) dX12_sign_100 (by decide) ?_
                    obtain ⟨q68, q68_e, hF⟩ := Option.bind_eq_some_iff.mp hF
                    refine c_X12_200 rfl sh_226 (by exact ltG hG (by decide)) (Nat.le_of_ble_eq_true rfl) dX12_sign_101 (s_X12_token _ q68_e hG) (fun r1 h1 hq => ?_)
                    obtain ⟨rfl, hq, hG⟩ := hq
                    replace hq := hq.symm
                    subst hq
                    simp only [Option.toList, List.nil_append]
                    refine v_iconst (v := 1) dX12_sign_104 (by decide) ?_
                    refine v_ireturn rfl dX12_sign_105 ?_
                    obtain ⟨rfl, rfl⟩ := Prod.mk.inj (Option.some.inj hF)
                    exact ⟨rfl, rfl, hG⟩
                  · rw [if_pos c67] at hF
                    refine v_bipush (v := 13) dX12_sign_91 (by decide) ?_
                    refine v_istore (i := 4) dX12_sign_93 (by decide) (nlT rfl) ?_
                    simp only [List.set_cons_zero, List.set_cons_succ]
                    refine v_aload_n (i := 0) dX12_sign_95 rfl rfl ?_
                    refine v_iload (i := 4) dX12_sign_96 rfl ?_
                    refine v_iload_n (i := 1) dX12_sign_98 rfl rfl ?_
                    refine v_iconst (v := 0) dX12_sign_99 (by decide) ?_
                    refine v_lconst (v := 0) dX12_sign_100 (by decide) ?_
                    obtain ⟨q70, q70_e, hF⟩ := Option.bind_eq_some_iff.mp hF
                    refine c_X12_200 rfl sh_226 (by exact ltG hG (by decide)) (Nat.le_of_ble_eq_true rfl) dX12_sign_101 (s_X12_token _ q70_e hG) (fun r1 h1 hq => ?_)
                    obtain ⟨rfl, hq, hG⟩ := hq
                    replace hq := hq.symm
                    subst hq
                    simp only [Option.toList, List.nil_append]
                    refine v_iconst (v := 1) dX12_sign_104 (by decide) ?_
                    refine v_ireturn rfl dX12_sign_105 ?_
                    obtain ⟨rfl, rfl⟩ := Prod.mk.inj (Option.some.inj hF)
                    exact ⟨rfl, rfl, hG⟩
                · rw [if_pos c66] at hF
                  refine v_bipush (v := 15) dX12_sign_81 (by decide) ?_
                  refine v_istore (i := 4) dX12_sign_83 (by decide) (nlT rfl) ?_
                  simp only [List.set_cons_zero, List.set_cons_succ]
                  refine v_iload_n (i := 2) dX12_sign_85 rfl rfl ?_
                  refine v_bipush (v := 60) dX12_sign_86 (by decide) ?_
                  refine v_icmp_ne 95 dX12_sign_88 (by decide) (fun c72 => ?_) (fun c72 => ?_)
                  · rw [if_neg c72] at hF
                    refine v_aload_n (i := 0) dX12_sign_95 rfl rfl ?_
                    refine v_iload (i := 4) dX12_sign_96 rfl ?_
                    refine v_iload_n (i := 1) dX12_sign_98 rfl rfl ?_
                    refine v_iconst (v := 0) dX12_sign_99 (by decide) ?_
                    refine v_lconst (v := 0) dX12_sign_100 (by decide) ?_
                    obtain ⟨q73, q73_e, hF⟩ := Option.bind_eq_some_iff.mp hF
                    refine c_X12_200 rfl sh_226 (by exact ltG hG (by decide)) (Nat.le_of_ble_eq_true rfl) dX12_sign_101 (s_X12_token _ q73_e hG) (fun r1 h1 hq => ?_)
                    obtain ⟨rfl, hq, hG⟩ := hq
                    replace hq := hq.symm
                    subst hq
                    simp only [Option.toList, List.nil_append]
                    refine v_iconst (v := 1) dX12_sign_104 (by decide) ?_
                    refine v_ireturn rfl dX12_sign_105 ?_
                    obtain ⟨rfl, rfl⟩ := Prod.mk.inj (Option.some.inj hF)
                    exact ⟨rfl, rfl, hG⟩
                  · rw [if_pos c72] at hF
                    refine v_bipush (v := 13) dX12_sign_91 (by decide) ?_
                    refine v_istore (i := 4) dX12_sign_93 (by decide) (nlT rfl) ?_
                    simp only [List.set_cons_zero, List.set_cons_succ]
                    refine v_aload_n (i := 0) dX12_sign_95 rfl rfl ?_
                    refine v_iload (i := 4) dX12_sign_96 rfl ?_
                    refine v_iload_n (i := 1) dX12_sign_98 rfl rfl ?_
                    refine v_iconst (v := 0) dX12_sign_99 (by decide) ?_
                    refine v_lconst (v := 0) dX12_sign_100 (by decide) ?_
                    obtain ⟨q75, q75_e, hF⟩ := Option.bind_eq_some_iff.mp hF
                    refine c_X12_200 rfl sh_226 (by exact ltG hG (by decide)) (Nat.le_of_ble_eq_true rfl) dX12_sign_101 (s_X12_token _ q75_e hG) (fun r1 h1 hq => ?_)
                    obtain ⟨rfl, hq, hG⟩ := hq
                    replace hq := hq.symm
                    subst hq
                    simp only [Option.toList, List.nil_append]
                    refine v_iconst (v := 1) dX12_sign_104 (by decide) ?_
                    refine v_ireturn rfl dX12_sign_105 ?_
                    obtain ⟨rfl, rfl⟩ := Prod.mk.inj (Option.some.inj hF)
                    exact ⟨rfl, rfl, hG⟩
            · rw [if_pos c53] at hF
              refine v_bipush (v := 9) dX12_sign_61 (by decide) ?_
              refine v_istore (i := 4) dX12_sign_63 (by decide) (nlT rfl) ?_
              simp only [List.set_cons_zero, List.set_cons_succ]
              refine v_iload_n (i := 2) dX12_sign_65 rfl rfl ?_
              refine v_bipush (v := 42) dX12_sign_66 (by decide) ?_
              refine v_icmp_ne 75 dX12_sign_68 (by decide) (fun c77 => ?_) (fun c77 => ?_)
              · rw [if_neg c77] at hF
                refine v_iload_n (i := 2) dX12_sign_75 rfl rfl ?_
                refine v_bipush (v := 47) dX12_sign_76 (by decide) ?_
                refine v_icmp_ne 85 dX12_sign_78 (by decide) (fun c78 => ?_) (fun c78 => ?_)
                · rw [if_neg c78] at hF
                  refine v_iload_n (i := 2) dX12_sign_85 rfl rfl ?_
                  refine v_bipush (v := 60) dX12_sign_86 (by decide) ?_
                  refine v_icmp_ne 95 dX12_sign_88 (by decide) (fun c79 => ?_) (fun c79 => ?_)
                  · rw [if_neg c79] at hF
                    refine v_aload_n (i := 0) dX12_sign_95 rfl rfl ?_
                    refine v_iload (i := 4) dX12_sign_96 rfl ?_
                    refine v_iload_n (i := 1) dX12_sign_98 rfl rfl ?_
                    refine v_iconst (v := 0) dX12_sign_99 (by decide) ?_
                    refine v_lconst (v := 0) dX12_sign_100 (by decide) ?_
                    obtain ⟨q80, q80_e, hF⟩ := Option.bind_eq_some_iff.mp hF
                    refine c_X12_200 rfl sh_226 (by exact ltG hG (by decide)) (Nat.le_of_ble_eq_true rfl) dX12_sign_101 (s_X12_token _ q80_e hG) (fun r1 h1 hq => ?_)
                    obtain ⟨rfl, hq, hG⟩ := hq
                    replace hq := hq.symm
                    subst hq
                    simp only [Option.toList, List.nil_append]
                    refine v_iconst (v := 1) dX12_sign_104 (by decide) ?_
                    refine v_ireturn rfl dX12_sign_105 ?_
                    obtain ⟨rfl, rfl⟩ := Prod.mk.inj (Option.some.inj hF)
                    exact ⟨rfl, rfl, hG⟩
                  · rw [if_pos c79] at hF
                    refine v_bipush (v := 13) dX12_sign_91 (by decide) ?_
                    refine v_istore (i := 4) dX12_sign_93 (by decide) (nlT rfl) ?_
                    simp only [List.set_cons_zero, List.set_cons_succ]
                    refine v_aload_n (i := 0) dX12_sign_95 rfl rfl ?_
                    refine v_iload (i := 4) dX12_sign_96 rfl ?_
                    refine v_iload_n (i := 1) dX12_sign_98 rfl rfl ?_
                    refine v_iconst (v := 0) dX12_sign_99 (by decide) ?_
                    refine v_lconst (v := 0) dX12_sign_100 (by decide) ?_
                    obtain ⟨q82, q82_e, hF⟩ := Option.bind_eq_some_iff.mp hF
                    refine c_X12_200 rfl sh_226 (by exact ltG hG (by decide)) (Nat.le_of_ble_eq_true rfl) dX12_sign_101 (s_X12_token _ q82_e hG) (fun r1 h1 hq => ?_)
                    obtain ⟨rfl, hq, hG⟩ := hq
                    replace hq := hq.symm
                    subst hq
                    simp only [Option.toList, List.nil_append]
                    refine v_iconst (v := 1) dX12_sign_104 (by decide) ?_
                    refine v_ireturn rfl dX12_sign_105 ?_
                    obtain ⟨rfl, rfl⟩ := Prod.mk.inj (Option.some.inj hF)
                    exact ⟨rfl, rfl, hG⟩
                · rw [if_pos c78] at hF
                  refine v_bipush (v := 15) dX12_sign_81 (by decide) ?_
                  refine v_istore (i := 4) dX12_sign_83 (by decide) (nlT rfl) ?_
                  simp only [List.set_cons_zero, List.set_cons_succ]
                  refine v_iload_n (i := 2) dX12_sign_85 rfl rfl ?_
                  refine v_bipush (v := 60) dX12_sign_86 (by decide) ?_
                  refine v_icmp_ne 95 dX12_sign_88 (by decide) (fun c84 => ?_) (fun c84 => ?_)
                  · rw [if_neg c84] at hF
                    refine v_aload_n (i := 0) dX12_sign_95 rfl rfl ?_
                    refine v_iload (i := 4) dX12_sign_96 rfl ?_
                    refine v_iload_n (i := 1) dX12_sign_98 rfl rfl ?_
                    refine v_iconst (v := 0) dX12_sign_99 (by decide) ?_
                    refine v_lconst (v := 0) dX12_sign_100 (by decide) ?_
                    obtain ⟨q85, q85_e, hF⟩ := Option.bind_eq_some_iff.mp hF
                    refine c_X12_200 rfl sh_226 (by exact ltG hG (by decide)) (Nat.le_of_ble_eq_true rfl) dX12_sign_101 (s_X12_token _ q85_e hG) (fun r1 h1 hq => ?_)
                    obtain ⟨rfl, hq, hG⟩ := hq
                    replace hq := hq.symm
                    subst hq
                    simp only [Option.toList, List.nil_append]
                    refine v_iconst (v := 1) dX12_sign_104 (by decide) ?_
                    refine v_ireturn rfl dX12_sign_105 ?_
                    obtain ⟨rfl, rfl⟩ := Prod.mk.inj (Option.some.inj hF)
                    exact ⟨rfl, rfl, hG⟩
                  · rw [if_pos c84] at hF
                    refine v_bipush (v := 13) dX12_sign_91 (by decide) ?_
                    refine v_istore (i := 4) dX12_sign_93 (by decide) (nlT rfl) ?_
                    simp only [List.set_cons_zero, List.set_cons_succ]
                    refine v_aload_n (i := 0) dX12_sign_95 rfl rfl ?_
                    refine v_iload (i := 4) dX12_sign_96 rfl ?_
                    refine v_iload_n (i := 1) dX12_sign_98 rfl rfl ?_
                    refine v_iconst (v := 0) dX12_sign_99 (by decide) ?_
                    refine v_lconst (v := 0) dX12_sign_100 (by decide) ?_
                    obtain ⟨q87, q87_e, hF⟩ := Option.bind_eq_some_iff.mp hF
                    refine c_X12_200 rfl sh_226 (by exact ltG hG (by decide)) (Nat.le_of_ble_eq_true rfl) dX12_sign_101 (s_X12_token _ q87_e hG) (fun r1 h1 hq => ?_)
                    obtain ⟨rfl, hq, hG⟩ := hq
                    replace hq := hq.symm
                    subst hq
                    simp only [Option.toList, List.nil_append]
                    refine v_iconst (v := 1) dX12_sign_104 (by decide) ?_
                    refine v_ireturn rfl dX12_sign_105 ?_
                    obtain ⟨rfl, rfl⟩ := Prod.mk.inj (Option.some.inj hF)
                    exact ⟨rfl, rfl, hG⟩
              · rw [if_pos c77] at hF
                refine v_bipush (v := 10) dX12_sign_71 (by decide) ?_
                refine v_istore (i := 4) dX12_sign_73 (by decide) (nlT rfl) ?_
                simp only [List.set_cons_zero, List.set_cons_succ]
                refine v_iload_n (i := 2) dX12_sign_75 rfl rfl ?_
                refine v_bipush (v := 47) dX12_sign_76 (by decide) ?_
                refine v_icmp_ne 85 dX12_sign_78 (by decide) (fun c89 => ?_) (fun c89 => ?_)
                · rw [if_neg c89] at hF
                  refine v_iload_n (i := 2) dX12_sign_85 rfl rfl ?_
                  refine v_bipush (v := 60) dX12_sign_86 (by decide) ?_
                  refine v_icmp_ne 95 dX12_sign_88 (by decide) (fun c90 => ?_) (fun c90 => ?_)
                  · rw [if_neg c90] at hF
                    refine v_aload_n (i := 0) dX12_sign_95 rfl rfl ?_
                    refine v_iload (i := 4) dX12_sign_96 rfl ?_
                    refine v_iload_n (i := 1) dX12_sign_98 rfl rfl ?_
                    refine v_iconst (v := 0) dX12_sign_99 (by decide) ?_
                    refine v_lconst (v := 0) dX12_sign_100 (by decide) ?_
                    obtain ⟨q91, q91_e, hF⟩ := Option.bind_eq_some_iff.mp hF
                    refine c_X12_200 rfl sh_226 (by exact ltG hG (by decide)) (Nat.le_of_ble_eq_true rfl) dX12_sign_101 (s_X12_token _ q91_e hG) (fun r1 h1 hq => ?_)
                    obtain ⟨rfl, hq, hG⟩ := hq
                    replace hq := hq.symm
                    subst hq
                    simp only [Option.toList, List.nil_append]
                    refine v_iconst (v := 1) dX12_sign_104 (by decide) ?_
                    refine v_ireturn rfl dX12_sign_105 ?_
                    obtain ⟨rfl, rfl⟩ := Prod.mk.inj (Option.some.inj hF)
                    exact ⟨rfl, rfl, hG⟩
                  · rw [if_pos c90] at hF
                    refine v_bipush (v := 13) dX12_sign_91 (by decide) ?_
                    refine v_istore (i := 4) dX12_sign_93 (by decide) (nlT rfl) ?_
                    simp only [List.set_cons_zero, List.set_cons_succ]
                    refine v_aload_n (i := 0) dX12_sign_95 rfl rfl ?_
                    refine v_iload (i := 4) dX12_sign_96 rfl ?_
                    refine v_iload_n (i := 1) dX12_sign_98 rfl rfl ?_
                    refine v_iconst (v := 0) dX12_sign_99 (by decide) ?_
                    refine v_lconst (v := 0) dX12_sign_100 (by decide) ?_
                    obtain ⟨q93, q93_e, hF⟩ := Option.bind_eq_some_iff.mp hF
                    refine c_X12_200 rfl sh_226 (by exact ltG hG (by decide)) (Nat.le_of_ble_eq_true rfl) dX12_sign_101 (s_X12_token _ q93_e hG) (fun r1 h1 hq => ?_)
                    obtain ⟨rfl, hq, hG⟩ := hq
                    replace hq := hq.symm
                    subst hq
                    simp only [Option.toList, List.nil_append]
                    refine v_iconst (v := 1) dX12_sign_104 (by decide) ?_
                    refine v_ireturn rfl dX12_sign_105 ?_
                    obtain ⟨rfl, rfl⟩ := Prod.mk.inj (Option.some.inj hF)
                    exact ⟨rfl, rfl, hG⟩
                · rw [if_pos c89] at hF
                  refine v_bipush (v := 15) dX12_sign_81 (by decide) ?_
                  refine v_istore (i := 4) dX12_sign_83 (by decide) (nlT rfl) ?_
                  simp only [List.set_cons_zero, List.set_cons_succ]
                  refine v_iload_n (i := 2) dX12_sign_85 rfl rfl ?_
                  refine v_bipush (v := 60) dX12_sign_86 (by decide) ?_
                  refine v_icmp_ne 95 dX12_sign_88 (by decide) (fun c95 => ?_) (fun c95 => ?_)
                  · rw [if_neg c95] at hF
                    refine v_aload_n (i := 0) dX12_sign_95 rfl rfl ?_
                    refine v_iload (i := 4) dX12_sign_96 rfl ?_
                    refine v_iload_n (i := 1) dX12_sign_98 rfl rfl ?_
                    refine v_iconst (v := 0) dX12_sign_99 (by decide) ?_
                    refine v_lconst (v := 0) dX12_sign_100 (by decide) ?_
                    obtain ⟨q96, q96_e, hF⟩ := Option.bind_eq_some_iff.mp hF
                    refine c_X12_200 rfl sh_226 (by exact ltG hG (by decide)) (Nat.le_of_ble_eq_true rfl) dX12_sign_101 (s_X12_token _ q96_e hG) (fun r1 h1 hq => ?_)
                    obtain ⟨rfl, hq, hG⟩ := hq
                    replace hq := hq.symm
                    subst hq
                    simp only [Option.toList, List.nil_append]
                    refine v_iconst (v := 1) dX12_sign_104 (by decide) ?_
                    refine v_ireturn rfl dX12_sign_105 ?_
                    obtain ⟨rfl, rfl⟩ := Prod.mk.inj (Option.some.inj hF)
                    exact ⟨rfl, rfl, hG⟩
                  · rw [if_pos c95] at hF
                    refine v_bipush (v := 13) dX12_sign_91 (by decide) ?_
                    refine v_istore (i := 4) dX12_sign_93 (by decide) (nlT rfl) ?_
                    simp only [List.set_cons_zero, List.set_cons_succ]
                    refine v_aload_n (i := 0) dX12_sign_95 rfl rfl ?_
                    refine v_iload (i := 4) dX12_sign_96 rfl ?_
                    refine v_iload_n (i := 1) dX12_sign_98 rfl rfl ?_
                    refine v_iconst (v := 0) dX12_sign_99 (by decide) ?_
                    refine v_lconst (v := 0) dX12_sign_100 (by decide) ?_
                    obtain ⟨q98, q98_e, hF⟩ := Option.bind_eq_some_iff.mp hF
                    refine c_X12_200 rfl sh_226 (by exact ltG hG (by decide)) (Nat.le_of_ble_eq_true rfl) dX12_sign_101 (s_X12_token _ q98_e hG) (fun r1 h1 hq => ?_)
                    obtain ⟨rfl, hq, hG⟩ := hq
                    replace hq := hq.symm
                    subst hq
                    simp only [Option.toList, List.nil_append]
                    refine v_iconst (v := 1) dX12_sign_104 (by decide) ?_
                    refine v_ireturn rfl dX12_sign_105 ?_
                    obtain ⟨rfl, rfl⟩ := Prod.mk.inj (Option.some.inj hF)
                    exact ⟨rfl, rfl, hG⟩
        · rw [if_pos c4] at hF
          refine v_bipush (v := 7) dX12_sign_37 (by decide) ?_
          refine v_goto 43 dX12_sign_39 (by decide) ?_
          refine v_istore (i := 4) dX12_sign_43 (by decide) (nlT rfl) ?_
          simp only [List.set_cons_zero, List.set_cons_succ]
          refine v_iload_n (i := 2) dX12_sign_45 rfl rfl ?_
          refine v_bipush (v := 43) dX12_sign_46 (by decide) ?_
          refine v_icmp_ne 55 dX12_sign_48 (by decide) (fun c100 => ?_) (fun c100 => ?_)
          · rw [if_neg c100] at hF
            refine v_iload_n (i := 2) dX12_sign_55 rfl rfl ?_
            refine v_bipush (v := 45) dX12_sign_56 (by decide) ?_
            refine v_icmp_ne 65 dX12_sign_58 (by decide) (fun c101 => ?_) (fun c101 => ?_)
            · rw [if_neg c101] at hF
              refine v_iload_n (i := 2) dX12_sign_65 rfl rfl ?_
              refine v_bipush (v := 42) dX12_sign_66 (by decide) ?_
              refine v_icmp_ne 75 dX12_sign_68 (by decide) (fun c102 => ?_) (fun c102 => ?_)
              · rw [if_neg c102] at hF
                refine v_iload_n (i := 2) dX12_sign_75 rfl rfl ?_
                refine v_bipush (v := 47) dX12_sign_76 (by decide) ?_
                refine v_icmp_ne 85 dX12_sign_78 (by decide) (fun c103 => ?_) (fun c103 => ?_)
                · rw [if_neg c103] at hF
                  refine v_iload_n (i := 2) dX12_sign_85 rfl rfl ?_
                  refine v_bipush (v := 60) dX12_sign_86 (by decide) ?_
                  refine v_icmp_ne 95 dX12_sign_88 (by decide) (fun c104 => ?_) (fun c104 => ?_)
                  · rw [if_neg c104] at hF
                    refine v_aload_n (i := 0) dX12_sign_95 rfl rfl ?_
                    refine v_iload (i := 4) dX12_sign_96 rfl ?_
                    refine v_iload_n (i := 1) dX12_sign_98 rfl rfl ?_
                    refine v_iconst (v := 0) dX12_sign_99 (by decide) ?_
                    refine v_lconst (v := 0) dX12_sign_100 (by decide) ?_
                    obtain ⟨q105, q105_e, hF⟩ := Option.bind_eq_some_iff.mp hF
                    refine c_X12_200 rfl sh_226 (by exact ltG hG (by decide)) (Nat.le_of_ble_eq_true rfl) dX12_sign_101 (s_X12_token _ q105_e hG) (fun r1 h1 hq => ?_)
                    obtain ⟨rfl, hq, hG⟩ := hq
                    replace hq := hq.symm
                    subst hq
                    simp only [Option.toList, List.nil_append]
                    refine v_iconst (v := 1) dX12_sign_104 (by decide) ?_
                    refine v_ireturn rfl dX12_sign_105 ?_
                    obtain ⟨rfl, rfl⟩ := Prod.mk.inj (Option.some.inj hF)
                    exact ⟨rfl, rfl, hG⟩
                  · rw [if_pos c104] at hF
                    refine v_bipush (v := 13) dX12_sign_91 (by decide) ?_
                    refine v_istore (i := 4) dX12_sign_93 (by decide) (nlT rfl) ?_
                    simp only [List.set_cons_zero, List.set_cons_succ]
                    refine v_aload_n (i := 0) dX12_sign_95 rfl rfl ?_
                    refine v_iload (i := 4) dX12_sign_96 rfl ?_
                    refine v_iload_n (i := 1) dX12_sign_98 rfl rfl ?_
                    refine v_iconst (v := 0) dX12_sign_99 (by decide) ?_
                    refine v_lconst (v := 0) dX12_sign_100 (by decide) ?_
                    obtain ⟨q107, q107_e, hF⟩ := Option.bind_eq_some_iff.mp hF
                    refine c_X12_200 rfl sh_226 (by exact ltG hG (by decide)) (Nat.le_of_ble_eq_true rfl) dX12_sign_101 (s_X12_token _ q107_e hG) (fun r1 h1 hq => ?_)
                    obtain ⟨rfl, hq, hG⟩ := hq
                    replace hq := hq.symm
                    subst hq
                    simp only [Option.toList, List.nil_append]
                    refine v_iconst (v := 1) dX12_sign_104 (by decide) ?_
                    refine v_ireturn rfl dX12_sign_105 ?_
                    obtain ⟨rfl, rfl⟩ := Prod.mk.inj (Option.some.inj hF)
                    exact ⟨rfl, rfl, hG⟩
                · rw [if_pos c103] at hF
                  refine v_bipush (v := 15) dX12_sign_81 (by decide) ?_
                  refine v_istore (i := 4) dX12_sign_83 (by decide) (nlT rfl) ?_
                  simp only [List.set_cons_zero, List.set_cons_succ]
                  refine v_iload_n (i := 2) dX12_sign_85 rfl rfl ?_
                  refine v_bipush (v := 60) dX12_sign_86 (by decide) ?_
                  refine v_icmp_ne 95 dX12_sign_88 (by decide) (fun c109 => ?_) (fun c109 => ?_)
                  · rw [if_neg c109] at hF
                    refine v_aload_n (i := 0) dX12_sign_95 rfl rfl ?_
                    refine v_iload (i := 4) dX12_sign_96 rfl ?_
                    refine v_iload_n (i := 1) dX12_sign_98 rfl rfl ?_
                    refine v_iconst (v := 0) dX12_sign_99 (by decide) ?_
                    refine v_lconst (v := 0) dX12_sign_100 (by decide) ?_
                    obtain ⟨q110, q110_e, hF⟩ := Option.bind_eq_some_iff.mp hF
                    refine c_X12_200 rfl sh_226 (by exact ltG hG (by decide)) (Nat.le_of_ble_eq_true rfl) dX12_sign_101 (s_X12_token _ q110_e hG) (fun r1 h1 hq => ?_)
                    obtain ⟨rfl, hq, hG⟩ := hq
                    replace hq := hq.symm
                    subst hq
                    simp only [Option.toList, List.nil_append]
                    refine v_iconst (v := 1) dX12_sign_104 (by decide) ?_
                    refine v_ireturn rfl dX12_sign_105 ?_
                    obtain ⟨rfl, rfl⟩ := Prod.mk.inj (Option.some.inj hF)
                    exact ⟨rfl, rfl, hG⟩
                  · rw [if_pos c109] at hF
                    refine v_bipush (v := 13) dX12_sign_91 (by decide) ?_
                    refine v_istore (i := 4) dX12_sign_93 (by decide) (nlT rfl) ?_
                    simp only [List.set_cons_zero, List.set_cons_succ]
                    refine v_aload_n (i := 0) dX12_sign_95 rfl rfl ?_
                    refine v_iload (i := 4) dX12_sign_96 rfl ?_
                    refine v_iload_n (i := 1) dX12_sign_98 rfl rfl ?_
                    refine v_iconst (v := 0) dX12_sign_99 (by decide) ?_
                    refine v_lconst (v := 0) dX12_sign_100 (by decide) ?_
                    obtain ⟨q112, q112_e, hF⟩ := Option.bind_eq_some_iff.mp hF
                    refine c_X12_200 rfl sh_226 (by exact ltG hG (by decide)) (Nat.le_of_ble_eq_true rfl) dX12_sign_101 (s_X12_token _ q112_e hG) (fun r1 h1 hq => ?_)
                    obtain ⟨rfl, hq, hG⟩ := hq
                    replace hq := hq.symm
                    subst hq
                    simp only [Option.toList, List.nil_append]
                    refine v_iconst (v := 1) dX12_sign_104 (by decide) ?_
                    refine v_ireturn rfl dX12_sign_105 ?_
                    obtain ⟨rfl, rfl⟩ := Prod.mk.inj (Option.some.inj hF)
                    exact ⟨rfl, rfl, hG⟩
              · rw [if_pos c102] at hF
                refine v_bipush (v := 10) dX12_sign_71 (by decide) ?_
                refine v_istore (i := 4) dX12_sign_73 (by decide) (nlT rfl) ?_
                simp only [List.set_cons_zero, List.set_cons_succ]
                refine v_iload_n (i := 2) dX12_sign_75 rfl rfl ?_
                refine v_bipush (v := 47) dX12_sign_76 (by decide) ?_
                refine v_icmp_ne 85 dX12_sign_78 (by decide) (fun c114 => ?_) (fun c114 => ?_)
                · rw [if_neg c114] at hF
                  refine v_iload_n (i := 2) dX12_sign_85 rfl rfl ?_
                  refine v_bipush (v := 60) dX12_sign_86 (by decide) ?_
                  refine v_icmp_ne 95 dX12_sign_88 (by decide) (fun c115 => ?_) (fun c115 => ?_)
                  · rw [if_neg c115] at hF
                    refine v_aload_n (i := 0) dX12_sign_95 rfl rfl ?_
                    refine v_iload (i := 4) dX12_sign_96 rfl ?_
                    refine v_iload_n (i := 1) dX12_sign_98 rfl rfl ?_
                    refine v_iconst (v := 0) dX12_sign_99 (by decide) ?_
                    refine v_lconst (v := 0) dX12_sign_100 (by decide) ?_
                    obtain ⟨q116, q116_e, hF⟩ := Option.bind_eq_some_iff.mp hF
                    refine c_X12_200 rfl sh_226 (by exact ltG hG (by decide)) (Nat.le_of_ble_eq_true rfl) dX12_sign_101 (s_X12_token _ q116_e hG) (fun r1 h1 hq => ?_)
                    obtain ⟨rfl, hq, hG⟩ := hq
                    replace hq := hq.symm
                    subst hq
                    simp only [Option.toList, List.nil_append]
                    refine v_iconst (v := 1) dX12_sign_104 (by decide) ?_
                    refine v_ireturn rfl dX12_sign_105 ?_
                    obtain ⟨rfl, rfl⟩ := Prod.mk.inj (Option.some.inj hF)
                    exact ⟨rfl, rfl, hG⟩
                  · rw [if_pos c115] at hF
                    refine v_bipush (v := 13) dX12_sign_91 (by decide) ?_
                    refine v_istore (i := 4) dX12_sign_93 (by decide) (nlT rfl) ?_
                    simp only [List.set_cons_zero, List.set_cons_succ]
                    refine v_aload_n (i := 0) dX12_sign_95 rfl rfl ?_
                    refine v_iload (i := 4) dX12_sign_96 rfl ?_
                    refine v_iload_n (i := 1) dX12_sign_98 rfl rfl ?_
                    refine v_iconst (v := 0) dX12_sign_99 (by decide) ?_
                    refine v_lconst (v := 0) dX12_sign_100 (by decide) ?_
                    obtain ⟨q118, q118_e, hF⟩ := Option.bind_eq_some_iff.mp hF
                    refine c_X12_200 rfl sh_226 (by exact ltG hG (by decide)) (Nat.le_of_ble_eq_true rfl) dX12_sign_101 (s_X12_token _ q118_e hG) (fun r1 h1 hq => ?_)
                    obtain ⟨rfl, hq, hG⟩ := hq
                    replace hq := hq.symm
                    subst hq
                    simp only [Option.toList, List.nil_append]
                    refine v_iconst (v := 1) dX12_sign_104 (by decide) ?_
                    refine v_ireturn rfl dX12_sign_105 ?_
                    obtain ⟨rfl, rfl⟩ := Prod.mk.inj (Option.some.inj hF)
                    exact ⟨rfl, rfl, hG⟩
                · rw [if_pos c114] at hF
                  refine v_bipush (v := 15) dX12_sign_81 (by decide) ?_
                  refine v_istore (i := 4) dX12_sign_83 (by decide) (nlT rfl) ?_
                  simp only [List.set_cons_zero, List.set_cons_succ]
                  refine v_iload_n (i := 2) dX12_sign_85 rfl rfl ?_
                  refine v_bipush (v := 60) dX12_sign_86 (by decide) ?_
                  refine v_icmp_ne 95 dX12_sign_88 (by decide) (fun c120 => ?_) (fun c120 => ?_)
                  · rw [if_neg c120] at hF
                    refine v_aload_n (i := 0) dX12_sign_95 rfl rfl ?_
                    refine v_iload (i := 4) dX12_sign_96 rfl ?_
                    refine v_iload_n (i := 1) dX12_sign_98 rfl rfl ?_
                    refine v_iconst (v := 0) dX12_sign_99 (by decide) ?_
                    refine v_lconst (v := 0) dX12_sign_100 (by decide) ?_
                    obtain ⟨q121, q121_e, hF⟩ := Option.bind_eq_some_iff.mp hF
                    refine c_X12_200 rfl sh_226 (by exact ltG hG (by decide)) (Nat.le_of_ble_eq_true rfl) dX12_sign_101 (s_X12_token _ q121_e hG) (fun r1 h1 hq => ?_)
                    obtain ⟨rfl, hq, hG⟩ := hq
                    replace hq := hq.symm
                    subst hq
                    simp only [Option.toList, List.nil_append]
                    refine v_iconst (v := 1) dX12_sign_104 (by decide) ?_
                    refine v_ireturn rfl dX12_sign_105 ?_
                    obtain ⟨rfl, rfl⟩ := Prod.mk.inj (Option.some.inj hF)
                    exact ⟨rfl, rfl, hG⟩
                  · rw [if_pos c120] at hF
                    refine v_bipush (v := 13) dX12_sign_91 (by decide) ?_
                    refine v_istore (i := 4) dX12_sign_93 (by decide) (nlT rfl) ?_
                    simp only [List.set_cons_zero, List.set_cons_succ]
                    refine v_aload_n (i := 0) dX12_sign_95 rfl rfl ?_
                    refine v_iload (i := 4) dX12_sign_96 rfl ?_
                    refine v_iload_n (i := 1) dX12_sign_98 rfl rfl ?_
                    refine v_iconst (v := 0) dX12_sign_99 (by decide) ?_
                    refine v_lconst (v := 0) dX12_sign_100 (by decide) ?_
                    obtain ⟨q123, q123_e, hF⟩ := Option.bind_eq_some_iff.mp hF
                    refine c_X12_200 rfl sh_226 (by exact ltG hG (by decide)) (Nat.le_of_ble_eq_true rfl) dX12_sign_101 (s_X12_token _ q123_e hG) (fun r1 h1 hq => ?_)
                    obtain ⟨rfl, hq, hG⟩ := hq
                    replace hq := hq.symm
                    subst hq
                    simp only [Option.toList, List.nil_append]
                    refine v_iconst (v := 1) dX12_sign_104 (by decide) ?_
                    refine v_ireturn rfl dX12_sign_105 ?_
                    obtain ⟨rfl, rfl⟩ := Prod.mk.inj (Option.some.inj hF)
                    exact ⟨rfl, rfl, hG⟩
            · rw [if_pos c101] at hF
              refine v_bipush (v := 9) dX12_sign_61 (by decide) ?_
              refine v_istore (i := 4) dX12_sign_63 (by decide) (nlT rfl) ?_
              simp only [List.set_cons_zero, List.set_cons_succ]
              refine v_iload_n (i := 2) dX12_sign_65 rfl rfl ?_
              refine v_bipush (v := 42) dX12_sign_66 (by decide) ?_
              refine v_icmp_ne 75 dX12_sign_68 (by decide) (fun c125 => ?_) (fun c125 => ?_)
              · rw [if_neg c125] at hF
                refine v_iload_n (i := 2) dX12_sign_75 rfl rfl ?_
                refine v_bipush (v := 47) dX12_sign_76 (by decide) ?_
                refine v_icmp_ne 85 dX12_sign_78 (by decide) (fun c126 => ?_) (fun c126 => ?_)
                · rw [if_neg c126] at hF
                  refine v_iload_n (i := 2) dX12_sign_85 rfl rfl ?_
                  refine v_bipush (v := 60) dX12_sign_86 (by decide) ?_
                  refine v_icmp_ne 95 dX12_sign_88 (by decide) (fun c127 => ?_) (fun c127 => ?_)
                  · rw [if_neg c127] at hF
                    refine v_aload_n (i := 0) dX12_sign_95 rfl rfl ?_
                    refine v_iload (i := 4) dX12_sign_96 rfl ?_
                    refine v_iload_n (i := 1) dX12_sign_98 rfl rfl ?_
                    refine v_iconst (v := 0) dX12_sign_99 (by decide) ?_
                    refine v_lconst (v := 0) dX12_sign_100 (by decide) ?_
                    obtain ⟨q128, q128_e, hF⟩ := Option.bind_eq_some_iff.mp hF
                    refine c_X12_200 rfl sh_226 (by exact ltG hG (by decide)) (Nat.le_of_ble_eq_true rfl) dX12_sign_101 (s_X12_token _ q128_e hG) (fun r1 h1 hq => ?_)
                    obtain ⟨rfl, hq, hG⟩ := hq
                    replace hq := hq.symm
                    subst hq
                    simp only [Option.toList, List.nil_append]
                    refine v_iconst (v := 1) dX12_sign_104 (by decide) ?_
                    refine v_ireturn rfl dX12_sign_105 ?_
                    obtain ⟨rfl, rfl⟩ := Prod.mk.inj (Option.some.inj hF)
                    exact ⟨rfl, rfl, hG⟩
                  · rw [if_pos c127] at hF
                    refine v_bipush (v := 13) dX12_sign_91 (by decide) ?_
                    refine v_istore (i := 4) dX12_sign_93 (by decide) (nlT rfl) ?_
                    simp only [List.set_cons_zero, List.set_cons_succ]
                    refine v_aload_n (i := 0) dX12_sign_95 rfl rfl ?_
                    refine v_iload (i := 4) dX12_sign_96 rfl ?_
                    refine v_iload_n (i := 1) dX12_sign_98 rfl rfl ?_
                    refine v_iconst (v := 0) dX12_sign_99 (by decide) ?_
                    refine v_lconst (v := 0) dX12_sign_100 (by decide) ?_
                    obtain ⟨q130, q130_e, hF⟩ := Option.bind_eq_some_iff.mp hF
                    refine c_X12_200 rfl sh_226 (by exact ltG hG (by decide)) (Nat.le_of_ble_eq_true rfl) dX12_sign_101 (s_X12_token _ q130_e hG) (fun r1 h1 hq => ?_)
                    obtain ⟨rfl, hq, hG⟩ := hq
                    replace hq := hq.symm
                    subst hq
                    simp only [Option.toList, List.nil_append]
                    refine v_iconst (v := 1) dX12_sign_104 (by decide) ?_
                    refine v_ireturn rfl dX12_sign_105 ?_
                    obtain ⟨rfl, rfl⟩ := Prod.mk.inj (Option.some.inj hF)
                    exact ⟨rfl, rfl, hG⟩
                · rw [if_pos c126] at hF
                  refine v_bipush (v := 15) dX12_sign_81 (by decide) ?_
                  refine v_istore (i := 4) dX12_sign_83 (by decide) (nlT rfl) ?_
                  simp only [List.set_cons_zero, List.set_cons_succ]
                  refine v_iload_n (i := 2) dX12_sign_85 rfl rfl ?_
                  refine v_bipush (v := 60) dX12_sign_86 (by decide) ?_
                  refine v_icmp_ne 95 dX12_sign_88 (by decide) (fun c132 => ?_) (fun c132 => ?_)
                  · rw [if_neg c132] at hF
                    refine v_aload_n (i := 0) dX12_sign_95 rfl rfl ?_
                    refine v_iload (i := 4) dX12_sign_96 rfl ?_
                    refine v_iload_n (i := 1) dX12_sign_98 rfl rfl ?_
                    refine v_iconst (v := 0) dX12_sign_99 (by decide) ?_
                    refine v_lconst (v := 0) dX12_sign_100 (by decide) ?_
                    obtain ⟨q133, q133_e, hF⟩ := Option.bind_eq_some_iff.mp hF
                    refine c_X12_200 rfl sh_226 (by exact ltG hG (by decide)) (Nat.le_of_ble_eq_true rfl) dX12_sign_101 (s_X12_token _ q133_e hG) (fun r1 h1 hq => ?_)
                    obtain ⟨rfl, hq, hG⟩ := hq
                    replace hq := hq.symm
                    subst hq
                    simp only [Option.toList, List.nil_append]
                    refine v_iconst (v := 1) dX12_sign_104 (by decide) ?_
                    refine v_ireturn rfl dX12_sign_105 ?_
                    obtain ⟨rfl, rfl⟩ := Prod.mk.inj (Option.some.inj hF)
                    exact ⟨rfl, rfl, hG⟩
                  · rw [if_pos c132] at hF
                    refine v_bipush (v := 13) dX12_sign_91 (by decide) ?_
                    refine v_istore (i := 4) dX12_sign_93 (by decide) (nlT rfl) ?_
                    simp only [List.set_cons_zero, List.set_cons_succ]
                    refine v_aload_n (i := 0) dX12_sign_95 rfl rfl ?_
                    refine v_iload (i := 4) dX12_sign_96 rfl ?_
                    refine v_iload_n (i := 1) dX12_sign_98 rfl rfl ?_
                    refine v_iconst (v := 0) dX12_sign_99 (by decide) ?_
                    refine v_lconst (v := 0) dX12_sign_100 (by decide) ?_
                    obtain ⟨q135, q135_e, hF⟩ := Option.bind_eq_some_iff.mp hF
                    refine c_X12_200 rfl sh_226 (by exact ltG hG (by decide)) (Nat.le_of_ble_eq_true rfl) dX12_sign_101 (s_X12_token _ q135_e hG) (fun r1 h1 hq => ?_)
                    obtain ⟨rfl, hq, hG⟩ := hq
                    replace hq := hq.symm
                    subst hq
                    simp only [Option.toList, List.nil_append]
                    refine v_iconst (v := 1) dX12_sign_104 (by decide) ?_
                    refine v_ireturn rfl dX12_sign_105 ?_
                    obtain ⟨rfl, rfl⟩ := Prod.mk.inj (Option.some.inj hF)
                    exact ⟨rfl, rfl, hG⟩
              · rw [if_pos c125] at hF
                refine v_bipush (v := 10) dX12_sign_71 (by decide) ?_
                refine v_istore (i := 4) dX12_sign_73 (by decide) (nlT rfl) ?_
                simp only [List.set_cons_zero, List.set_cons_succ]
                refine v_iload_n (i := 2) dX12_sign_75 rfl rfl ?_
                refine v_bipush (v := 47) dX12_sign_76 (by decide) ?_
                refine v_icmp_ne 85 dX12_sign_78 (by decide) (fun c137 => ?_) (fun c137 => ?_)
                · rw [if_neg c137] at hF
                  refine v_iload_n (i := 2) dX12_sign_85 rfl rfl ?_
                  refine v_bipush (v := 60) dX12_sign_86 (by decide) ?_
                  refine v_icmp_ne 95 dX12_sign_88 (by decide) (fun c138 => ?_) (fun c138 => ?_)
                  · rw [if_neg c138] at hF
                    refine v_aload_n (i := 0) dX12_sign_95 rfl rfl ?_
                    refine v_iload (i := 4) dX12_sign_96 rfl ?_
                    refine v_iload_n (i := 1) dX12_sign_98 rfl rfl ?_
                    refine v_iconst (v := 0) dX12_sign_99 (by decide) ?_
                    refine v_lconst (v := 0) dX12_sign_100 (by decide) ?_
                    obtain ⟨q139, q139_e, hF⟩ := Option.bind_eq_some_iff.mp hF
                    refine c_X12_200 rfl sh_226 (by exact ltG hG (by decide)) (Nat.le_of_ble_eq_true rfl) dX12_sign_101 (s_X12_token _ q139_e hG) (fun r1 h1 hq => ?_)
                    obtain ⟨rfl, hq, hG⟩ := hq
                    replace hq := hq.symm
                    subst hq
                    simp only [Option.toList, List.nil_append]
                    refine v_iconst (v := 1) dX12_sign_104 (by decide) ?_
                    refine v_ireturn rfl dX12_sign_105 ?_
                    obtain ⟨rfl, rfl⟩ := Prod.mk.inj (Option.some.inj hF)
                    exact ⟨rfl, rfl, hG⟩
                  · rw [if_pos c138] at hF
                    refine v_bipush (v := 13) dX12_sign_91 (by decide) ?_
                    refine v_istore (i := 4) dX12_sign_93 (by decide) (nlT rfl) ?_
                    simp only [List.set_cons_zero, List.set_cons_succ]
                    refine v_aload_n (i := 0) dX12_sign_95 rfl rfl ?_
                    refine v_iload (i := 4) dX12_sign_96 rfl ?_
                    refine v_iload_n (i := 1) dX12_sign_98 rfl rfl ?_
                    refine v_iconst (v := 0) dX12_sign_99 (by decide) ?_
                    refine v_lconst (v := 0) dX12_sign_100 (by decide) ?_
                    obtain ⟨q141, q141_e, hF⟩ := Option.bind_eq_some_iff.mp hF
                    refine c_X12_200 rfl sh_226 (by exact ltG hG (by decide)) (Nat.le_of_ble_eq_true rfl) dX12_sign_101 (s_X12_token _ q141_e hG) (fun r1 h1 hq => ?_)
                    obtain ⟨rfl, hq, hG⟩ := hq
                    replace hq := hq.symm
                    subst hq
                    simp only [Option.toList, List.nil_append]
                    refine v_iconst (v := 1) dX12_sign_104 (by decide) ?_
                    refine v_ireturn rfl dX12_sign_105 ?_
                    obtain ⟨rfl, rfl⟩ := Prod.mk.inj (Option.some.inj hF)
                    exact ⟨rfl, rfl, hG⟩
                · rw [if_pos c137] at hF
                  refine v_bipush (v := 15) dX12_sign_81 (by decide) ?_
                  refine v_istore (i := 4) dX12_sign_83 (by decide) (nlT rfl) ?_
                  simp only [List.set_cons_zero, List.set_cons_succ]
                  refine v_iload_n (i := 2) dX12_sign_85 rfl rfl ?_
                  refine v_bipush (v := 60) dX12_sign_86 (by decide) ?_
                  refine v_icmp_ne 95 dX12_sign_88 (by decide) (fun c143 => ?_) (fun c143 => ?_)
                  · rw [if_neg c143] at hF
                    refine v_aload_n (i := 0) dX12_sign_95 rfl rfl ?_
                    refine v_iload (i := 4) dX12_sign_96 rfl ?_
                    refine v_iload_n (i := 1) dX12_sign_98 rfl rfl ?_
                    refine v_iconst (v := 0) dX12_sign_99 (by decide) ?_
                    refine v_lconst (v := 0) dX12_sign_100 (by decide) ?_
                    obtain ⟨q144, q144_e, hF⟩ := Option.bind_eq_some_iff.mp hF
                    refine c_X12_200 rfl sh_226 (by exact ltG hG (by decide)) (Nat.le_of_ble_eq_true rfl) dX12_sign_101 (s_X12_token _ q144_e hG) (fun r1 h1 hq => ?_)
                    obtain ⟨rfl, hq, hG⟩ := hq
                    replace hq := hq.symm
                    subst hq
                    simp only [Option.toList, List.nil_append]
                    refine v_iconst (v := 1) dX12_sign_104 (by decide) ?_
                    refine v_ireturn rfl dX12_sign_105 ?_
                    obtain ⟨rfl, rfl⟩ := Prod.mk.inj (Option.some.inj hF)
                    exact ⟨rfl, rfl, hG⟩
                  · rw [if_pos c143] at hF
                    refine v_bipush (v := 13) dX12_sign_91 (by decide) ?_
                    refine v_istore (i := 4) dX12_sign_93 (by decide) (nlT rfl) ?_
                    simp only [List.set_cons_zero, List.set_cons_succ]
                    refine v_aload_n (i := 0) dX12_sign_95 rfl rfl ?_
                    refine v_iload (i := 4) dX12_sign_96 rfl ?_
                    refine v_iload_n (i := 1) dX12_sign_98 rfl rfl ?_
                    refine v_iconst (v := 0) dX12_sign_99 (by decide) ?_
                    refine v_lconst (v := 0) dX12_sign_100 (by decide) ?_
                    obtain ⟨q146, q146_e, hF⟩ := Option.bind_eq_some_iff.mp hF
                    refine c_X12_200 rfl sh_226 (by exact ltG hG (by decide)) (Nat.le_of_ble_eq_true rfl) dX12_sign_101 (s_X12_token _ q146_e hG) (fun r1 h1 hq => ?_)
                    obtain ⟨rfl, hq, hG⟩ := hq
                    replace hq := hq.symm
                    subst hq
                    simp only [Option.toList, List.nil_append]
                    refine v_iconst (v := 1) dX12_sign_104 (by decide) ?_
                    refine v_ireturn rfl dX12_sign_105 ?_
                    obtain ⟨rfl, rfl⟩ := Prod.mk.inj (Option.some.inj hF)
                    exact ⟨rfl, rfl, hG⟩
          · rw [if_pos c100] at hF
            refine v_bipush (v := 8) dX12_sign_51 (by decide) ?_
            refine v_istore (i := 4) dX12_sign_53 (by decide) (nlT rfl) ?_
            simp only [List.set_cons_zero, List.set_cons_succ]
            refine v_iload_n (i := 2) dX12_sign_55 rfl rfl ?_
            refine v_bipush (v := 45) dX12_sign_56 (by decide) ?_
            refine v_icmp_ne 65 dX12_sign_58 (by decide) (fun c148 => ?_) (fun c148 => ?_)
            · rw [if_neg c148] at hF
              refine v_iload_n (i := 2) dX12_sign_65 rfl rfl ?_
              refine v_bipush (v := 42) dX12_sign_66 (by decide) ?_
              refine v_icmp_ne 75 dX12_sign_68 (by decide) (fun c149 => ?_) (fun c149 => ?_)
              · rw [if_neg c149] at hF
                refine v_iload_n (i := 2) dX12_sign_75 rfl rfl ?_
                refine v_bipush (v := 47) dX12_sign_76 (by decide) ?_
                refine v_icmp_ne 85 dX12_sign_78 (by decide) (fun c150 => ?_) (fun c150 => ?_)
                · rw [if_neg c150] at hF
                  refine v_iload_n (i := 2) dX12_sign_85 rfl rfl ?_
                  refine v_bipush (v := 60) dX12_sign_86 (by decide) ?_
                  refine v_icmp_ne 95 dX12_sign_88 (by decide) (fun c151 => ?_) (fun c151 => ?_)
                  · rw [if_neg c151] at hF
                    refine v_aload_n (i := 0) dX12_sign_95 rfl rfl ?_
                    refine v_iload (i := 4) dX12_sign_96 rfl ?_
                    refine v_iload_n (i := 1) dX12_sign_98 rfl rfl ?_
                    refine v_iconst (v := 0) dX12_sign_99 (by decide) ?_
                    refine v_lconst (v := 0) dX12_sign_100 (by decide) ?_
                    obtain ⟨q152, q152_e, hF⟩ := Option.bind_eq_some_iff.mp hF
                    refine c_X12_200 rfl sh_226 (by exact ltG hG (by decide)) (Nat.le_of_ble_eq_true rfl) dX12_sign_101 (s_X12_token _ q152_e hG) (fun r1 h1 hq => ?_)
                    obtain ⟨rfl, hq, hG⟩ := hq
                    replace hq := hq.symm
                    subst hq
                    simp only [Option.toList, List.nil_append]
                    refine v_iconst (v := 1) dX12_sign_104 (by decide) ?_
                    refine v_ireturn rfl dX12_sign_105 ?_
                    obtain ⟨rfl, rfl⟩ := Prod.mk.inj (Option.some.inj hF)
                    exact ⟨rfl, rfl, hG⟩
                  · rw [if_pos c151] at hF
                    refine v_bipush (v := 13) dX12_sign_91 (by decide) ?_
                    refine v_istore (i := 4) dX12_sign_93 (by decide) (nlT rfl) ?_
                    simp only [List.set_cons_zero, List.set_cons_succ]
                    refine v_aload_n (i := 0) dX12_sign_95 rfl rfl ?_
                    refine v_iload (i := 4) dX12_sign_96 rfl ?_
                    refine v_iload_n (i := 1) dX12_sign_98 rfl rfl ?_
                    refine v_iconst (v := 0) dX12_sign_99 (by decide) ?_
                    refine v_lconst (v := 0) dX12_sign_100 (by decide) ?_
                    obtain ⟨q154, q154_e, hF⟩ := Option.bind_eq_some_iff.mp hF
                    refine c_X12_200 rfl sh_226 (by exact ltG hG (by decide)) (Nat.le_of_ble_eq_true rfl) dX12_sign_101 (s_X12_token _ q154_e hG) (fun r1 h1 hq => ?_)
                    obtain ⟨rfl, hq, hG⟩ := hq
                    replace hq := hq.symm
                    subst hq
                    simp only [Option.toList, List.nil_append]
                    refine v_iconst (v := 1) dX12_sign_104 (by decide) ?_
                    refine v_ireturn rfl dX12_sign_105 ?_
                    obtain ⟨rfl, rfl⟩ := Prod.mk.inj (Option.some.inj hF)
                    exact ⟨rfl, rfl, hG⟩
                · rw [if_pos c150] at hF
                  refine v_bipush (v := 15) dX12_sign_81 (by decide) ?_
                  refine v_istore (i := 4) dX12_sign_83 (by decide) (nlT rfl) ?_
                  simp only [List.set_cons_zero, List.set_cons_succ]
                  refine v_iload_n (i := 2) dX12_sign_85 rfl rfl ?_
                  refine v_bipush (v := 60) dX12_sign_86 (by decide) ?_
                  refine v_icmp_ne 95 dX12_sign_88 (by decide) (fun c156 => ?_) (fun c156 => ?_)
                  · rw [if_neg c156] at hF
                    refine v_aload_n (i := 0) dX12_sign_95 rfl rfl ?_
                    refine v_iload (i := 4) dX12_sign_96 rfl ?_
                    refine v_iload_n (i := 1) dX12_sign_98 rfl rfl ?_
                    refine v_iconst (v := 0) dX12_sign_99 (by decide) ?_
                    refine v_lconst (v := 0) dX12_sign_100 (by decide) ?_
                    obtain ⟨q157, q157_e, hF⟩ := Option.bind_eq_some_iff.mp hF
                    refine c_X12_200 rfl sh_226 (by exact ltG hG (by decide)) (Nat.le_of_ble_eq_true rfl) dX12_sign_101 (s_X12_token _ q157_e hG) (fun r1 h1 hq => ?_)
                    obtain ⟨rfl, hq, hG⟩ := hq
                    replace hq := hq.symm
                    subst hq
                    simp only [Option.toList, List.nil_append]
                    refine v_iconst (v := 1) dX12_sign_104 (by decide) ?_
                    refine v_ireturn rfl dX12_sign_105 ?_
                    obtain ⟨rfl, rfl⟩ := Prod.mk.inj (Option.some.inj hF)
                    exact ⟨rfl, rfl, hG⟩
                  · rw [if_pos c156] at hF
                    refine v_bipush (v := 13) dX12_sign_91 (by decide) ?_
                    refine v_istore (i := 4) dX12_sign_93 (by decide) (nlT rfl) ?_
                    simp only [List.set_cons_zero, List.set_cons_succ]
                    refine v_aload_n (i := 0) dX12_sign_95 rfl rfl ?_
                    refine v_iload (i := 4) dX12_sign_96 rfl ?_
                    refine v_iload_n (i := 1) dX12_sign_98 rfl rfl ?_
                    refine v_iconst (v := 0) dX12_sign_99 (by decide) ?_
                    refine v_lconst (v := 0) dX12_sign_100 (by decide) ?_
                    obtain ⟨q159, q159_e, hF⟩ := Option.bind_eq_some_iff.mp hF
                    refine c_X12_200 rfl sh_226 (by exact ltG hG (by decide)) (Nat.le_of_ble_eq_true rfl) dX12_sign_101 (s_X12_token _ q159_e hG) (fun r1 h1 hq => ?_)
                    obtain ⟨rfl, hq, hG⟩ := hq
                    replace hq := hq.symm
                    subst hq
                    simp only [Option.toList, List.nil_append]
                    refine v_iconst (v := 1) dX12_sign_104 (by decide) ?_
                    refine v_ireturn rfl dX12_sign_105 ?_
                    obtain ⟨rfl, rfl⟩ := Prod.mk.inj (Option.some.inj hF)
                    exact ⟨rfl, rfl, hG⟩
              · rw [if_pos c149] at hF
                refine v_bipush (v := 10) dX12_sign_71 (by decide) ?_
                refine v_istore (i := 4) dX12_sign_73 (by decide) (nlT rfl) ?_
                simp only [List.set_cons_zero, List.set_cons_succ]
                refine v_iload_n (i := 2) dX12_sign_75 rfl rfl ?_
                refine v_bipush (v := 47) dX12_sign_76 (by decide) ?_
                refine v_icmp_ne 85 dX12_sign_78 (by decide) (fun c161 => ?_) (fun c161 => ?_)
                · rw [if_neg c161] at hF
                  refine v_iload_n (i := 2) dX12_sign_85 rfl rfl ?_
                  refine v_bipush (v := 60) dX12_sign_86 (by decide) ?_
                  refine v_icmp_ne 95 dX12_sign_88 (by decide) (fun c162 => ?_) (fun c162 => ?_)
                  · rw [if_neg c162] at hF
                    refine v_aload_n (i := 0) dX12_sign_95 rfl rfl ?_
                    refine v_iload (i := 4) dX12_sign_96 rfl ?_
                    refine v_iload_n (i := 1) dX12_sign_98 rfl rfl ?_
                    refine v_iconst (v := 0) dX12_sign_99 (by decide) ?_
                    refine v_lconst (v := 0) dX12_sign_100 (by decide) ?_
                    obtain ⟨q163, q163_e, hF⟩ := Option.bind_eq_some_iff.mp hF
                    refine c_X12_200 rfl sh_226 (by exact ltG hG (by decide)) (Nat.le_of_ble_eq_true rfl) dX12_sign_101 (s_X12_token _ q163_e hG) (fun r1 h1 hq => ?_)
                    obtain ⟨rfl, hq, hG⟩ := hq
                    replace hq := hq.symm
                    subst hq
                    simp only [Option.toList, List.nil_append]
                    refine v_iconst (v := 1) dX12_sign_104 (by decide) ?_
                    refine v_ireturn rfl dX12_sign_105 ?_
                    obtain ⟨rfl, rfl⟩ := Prod.mk.inj (Option.some.inj hF)
                    exact ⟨rfl, rfl, hG⟩
                  · rw [if_pos c162] at hF
                    refine v_bipush (v := 13) dX12_sign_91 (by decide) ?_
                    refine v_istore (i := 4) dX12_sign_93 (by decide) (nlT rfl) ?_
                    simp only [List.set_cons_zero, List.set_cons_succ]
                    refine v_aload_n (i := 0) dX12_sign_95 rfl rfl ?_
                    refine v_iload (i := 4) dX12_sign_96 rfl ?_
                    refine v_iload_n (i := 1) dX12_sign_98 rfl rfl ?_
                    refine v_iconst (v := 0) dX12_sign_99 (by decide) ?_
                    refine v_lconst (v := 0) dX12_sign_100 (by decide) ?_
                    obtain ⟨q165, q165_e, hF⟩ := Option.bind_eq_some_iff.mp hF
                    refine c_X12_200 rfl sh_226 (by exact ltG hG (by decide)) (Nat.le_of_ble_eq_true rfl) dX12_sign_101 (s_X12_token _ q165_e hG) (fun r1 h1 hq => ?_)
                    obtain ⟨rfl, hq, hG⟩ := hq
                    replace hq := hq.symm
                    subst hq
                    simp only [Option.toList, List.nil_append]
                    refine v_iconst (v := 1) dX12_sign_104 (by decide) ?_
                    refine v_ireturn rfl dX12_sign_105 ?_
                    obtain ⟨rfl, rfl⟩ := Prod.mk.inj (Option.some.inj hF)
                    exact ⟨rfl, rfl, hG⟩
                · rw [if_pos c161] at hF
                  refine v_bipush (v := 15) dX12_sign_81 (by decide) ?_
                  refine v_istore (i := 4) dX12_sign_83 (by decide) (nlT rfl) ?_
                  simp only [List.set_cons_zero, List.set_cons_succ]
                  refine v_iload_n (i := 2) dX12_sign_85 rfl rfl ?_
                  refine v_bipush (v := 60) dX12_sign_86 (by decide) ?_
                  refine v_icmp_ne 95 dX12_sign_88 (by decide) (fun c167 => ?_) (fun c167 => ?_)
                  · rw [if_neg c167] at hF
                    refine v_aload_n (i := 0) dX12_sign_95 rfl rfl ?_
                    refine v_iload (i := 4) dX12_sign_96 rfl ?_
                    refine v_iload_n (i := 1) dX12_sign_98 rfl rfl ?_
                    refine v_iconst (v := 0) dX12_sign_99 (by decide) ?_
                    refine v_lconst (v := 0) dX12_sign_100 (by decide) ?_
                    obtain ⟨q168, q168_e, hF⟩ := Option.bind_eq_some_iff.mp hF
                    refine c_X12_200 rfl sh_226 (by exact ltG hG (by decide)) (Nat.le_of_ble_eq_true rfl) dX12_sign_101 (s_X12_token _ q168_e hG) (fun r1 h1 hq => ?_)
                    obtain ⟨rfl, hq, hG⟩ := hq
                    replace hq := hq.symm
                    subst hq
                    simp only [Option.toList, List.nil_append]
                    refine v_iconst (v := 1) dX12_sign_104 (by decide) ?_
                    refine v_ireturn rfl dX12_sign_105 ?_
                    obtain ⟨rfl, rfl⟩ := Prod.mk.inj (Option.some.inj hF)
                    exact ⟨rfl, rfl, hG⟩
                  · rw [if_pos c167] at hF
                    refine v_bipush (v := 13) dX12_sign_91 (by decide) ?_
                    refine v_istore (i := 4) dX12_sign_93 (by decide) (nlT rfl) ?_
                    simp only [List.set_cons_zero, List.set_cons_succ]
                    refine v_aload_n (i := 0) dX12_sign_95 rfl rfl ?_
                    refine v_iload (i := 4) dX12_sign_96 rfl ?_
                    refine v_iload_n (i := 1) dX12_sign_98 rfl rfl ?_
                    refine v_iconst (v := 0) dX12_sign_99 (by decide) ?_
                    refine v_lconst (v := 0) dX12_sign_100 (by decide) ?_
                    obtain ⟨q170, q170_e, hF⟩ := Option.bind_eq_some_iff.mp hF
                    refine c_X12_200 rfl sh_226 (by exact ltG hG (by decide)) (Nat.le_of_ble_eq_true rfl) dX12_sign_101 (s_X12_token _ q170_e hG) (fun r1 h1 hq => ?_)
                    obtain ⟨rfl, hq, hG⟩ := hq
                    replace hq := hq.symm
                    subst hq
                    simp only [Option.toList, List.nil_append]
                    refine v_iconst (v := 1) dX12_sign_104 (by decide) ?_
                    refine v_ireturn rfl dX12_sign_105 ?_
                    obtain ⟨rfl, rfl⟩ := Prod.mk.inj (Option.some.inj hF)
                    exact ⟨rfl, rfl, hG⟩
            · rw [if_pos c148] at hF
              refine v_bipush (v := 9) dX12_sign_61 (by decide) ?_
              refine v_istore (i := 4) dX12_sign_63 (by decide) (nlT rfl) ?_
              simp only [List.set_cons_zero, List.set_cons_succ]
              refine v_iload_n (i := 2) dX12_sign_65 rfl rfl ?_
              refine v_bipush (v := 42) dX12_sign_66 (by decide) ?_
              refine v_icmp_ne 75 dX12_sign_68 (by decide) (fun c172 => ?_) (fun c172 => ?_)
              · rw [if_neg c172] at hF
                refine v_iload_n (i := 2) dX12_sign_75 rfl rfl ?_
                refine v_bipush (v := 47) dX12_sign_76 (by decide) ?_
                refine v_icmp_ne 85 dX12_sign_78 (by decide) (fun c173 => ?_) (fun c173 => ?_)
                · rw [if_neg c173] at hF
                  refine v_iload_n (i := 2) dX12_sign_85 rfl rfl ?_
                  refine v_bipush (v := 60) dX12_sign_86 (by decide) ?_
                  refine v_icmp_ne 95 dX12_sign_88 (by decide) (fun c174 => ?_) (fun c174 => ?_)
                  · rw [if_neg c174] at hF
                    refine v_aload_n (i := 0) dX12_sign_95 rfl rfl ?_
                    refine v_iload (i := 4) dX12_sign_96 rfl ?_
                    refine v_iload_n (i := 1) dX12_sign_98 rfl rfl ?_
                    refine v_iconst (v := 0) dX12_sign_99 (by decide) ?_
                    refine v_lconst (v := 0) dX12_sign_100 (by decide) ?_
                    obtain ⟨q175, q175_e, hF⟩ := Option.bind_eq_some_iff.mp hF
                    refine c_X12_200 rfl sh_226 (by exact ltG hG (by decide)) (Nat.le_of_ble_eq_true rfl) dX12_sign_101 (s_X12_token _ q175_e hG) (fun r1 h1 hq => ?_)
                    obtain ⟨rfl, hq, hG⟩ := hq
                    replace hq := hq.symm
                    subst hq
                    simp only [Option.toList, List.nil_append]
                    refine v_iconst (v := 1) dX12_sign_104 (by decide) ?_
                    refine v_ireturn rfl dX12_sign_105 ?_
                    obtain ⟨rfl, rfl⟩ := Prod.mk.inj (Option.some.inj hF)
                    exact ⟨rfl, rfl, hG⟩
                  · rw [if_pos c174] at hF
                    refine v_bipush (v := 13) dX12_sign_91 (by decide) ?_
                    refine v_istore (i := 4) dX12_sign_93 (by decide) (nlT rfl) ?_
                    simp only [List.set_cons_zero, List.set_cons_succ]
                    refine v_aload_n (i := 0) dX12_sign_95 rfl rfl ?_
                    refine v_iload (i := 4) dX12_sign_96 rfl ?_
                    refine v_iload_n (i := 1) dX12_sign_98 rfl rfl ?_
                    refine v_iconst (v := 0) dX12_sign_99 (by decide) ?_
                    refine v_lconst (v := 0) dX12_sign_100 (by decide) ?_
                    obtain ⟨q177, q177_e, hF⟩ := Option.bind_eq_some_iff.mp hF
                    refine c_X12_200 rfl sh_226 (by exact ltG hG (by decide)) (Nat.le_of_ble_eq_true rfl) dX12_sign_101 (s_X12_token _ q177_e hG) (fun r1 h1 hq => ?_)
                    obtain ⟨rfl, hq, hG⟩ := hq
                    replace hq := hq.symm
                    subst hq
                    simp only [Option.toList, List.nil_append]
                    refine v_iconst (v := 1) dX12_sign_104 (by decide) ?_
                    refine v_ireturn rfl dX12_sign_105 ?_
                    obtain ⟨rfl, rfl⟩ := Prod.mk.inj (Option.some.inj hF)
                    exact ⟨rfl, rfl, hG⟩
                · rw [if_pos c173] at hF
                  refine v_bipush (v := 15) dX12_sign_81 (by decide) ?_
                  refine v_istore (i := 4) dX12_sign_83 (by decide) (nlT rfl) ?_
                  simp only [List.set_cons_zero, List.set_cons_succ]
                  refine v_iload_n (i := 2) dX12_sign_85 rfl rfl ?_
                  refine v_bipush (v := 60) dX12_sign_86 (by decide) ?_
                  refine v_icmp_ne 95 dX12_sign_88 (by decide) (fun c179 => ?_) (fun c179 => ?_)
                  · rw [if_neg c179] at hF
                    refine v_aload_n (i := 0) dX12_sign_95 rfl rfl ?_
                    refine v_iload (i := 4) dX12_sign_96 rfl ?_
                    refine v_iload_n (i := 1) dX12_sign_98 rfl rfl ?_
                    refine v_iconst (v := 0) dX12_sign_99 (by decide) ?_
                    refine v_lconst (v := 0) dX12_sign_100 (by decide) ?_
                    obtain ⟨q180, q180_e, hF⟩ := Option.bind_eq_some_iff.mp hF
                    refine c_X12_200 rfl sh_226 (by exact ltG hG (by decide)) (Nat.le_of_ble_eq_true rfl) dX12_sign_101 (s_X12_token _ q180_e hG) (fun r1 h1 hq => ?_)
                    obtain ⟨rfl, hq, hG⟩ := hq
                    replace hq := hq.symm
                    subst hq
                    simp only [Option.toList, List.nil_append]
                    refine v_iconst (v := 1) dX12_sign_104 (by decide) ?_
                    refine v_ireturn rfl dX12_sign_105 ?_
                    obtain ⟨rfl, rfl⟩ := Prod.mk.inj (Option.some.inj hF)
                    exact ⟨rfl, rfl, hG⟩
                  · rw [if_pos c179] at hF
                    refine v_bipush (v := 13) dX12_sign_91 (by decide) ?_
                    refine v_istore (i := 4) dX12_sign_93 (by decide) (nlT rfl) ?_
                    simp only [List.set_cons_zero, List.set_cons_succ]
                    refine v_aload_n (i := 0) dX12_sign_95 rfl rfl ?_
                    refine v_iload (i := 4) dX12_sign_96 rfl ?_
                    refine v_iload_n (i := 1) dX12_sign_98 rfl rfl ?_
                    refine v_iconst (v := 0) dX12_sign_99 (by decide) ?_
                    refine v_lconst (v := 0) dX12_sign_100 (by decide) ?_
                    obtain ⟨q182, q182_e, hF⟩ := Option.bind_eq_some_iff.mp hF
                    refine c_X12_200 rfl sh_226 (by exact ltG hG (by decide)) (Nat.le_of_ble_eq_true rfl) dX12_sign_101 (s_X12_token _ q182_e hG) (fun r1 h1 hq => ?_)
                    obtain ⟨rfl, hq, hG⟩ := hq
                    replace hq := hq.symm
                    subst hq
                    simp only [Option.toList, List.nil_append]
                    refine v_iconst (v := 1) dX12_sign_104 (by decide) ?_
                    refine v_ireturn rfl dX12_sign_105 ?_
                    obtain ⟨rfl, rfl⟩ := Prod.mk.inj (Option.some.inj hF)
                    exact ⟨rfl, rfl, hG⟩
              · rw [if_pos c172] at hF
                refine v_bipush (v := 10) dX12_sign_71 (by decide) ?_
                refine v_istore (i := 4) dX12_sign_73 (by decide) (nlT rfl) ?_
                simp only [List.set_cons_zero, List.set_cons_succ]
                refine v_iload_n (i := 2) dX12_sign_75 rfl rfl ?_
                refine v_bipush (v := 47) dX12_sign_76 (by decide) ?_
                refine v_icmp_ne 85 dX12_sign_78 (by decide) (fun c184 => ?_) (fun c184 => ?_)
                · rw [if_neg c184] at hF
                  refine v_iload_n (i := 2) dX12_sign_85 rfl rfl ?_
                  refine v_bipush (v := 60) dX12_sign_86 (by decide) ?_
                  refine v_icmp_ne 95 dX12_sign_88 (by decide) (fun c185 => ?_) (fun c185 => ?_)
                  · rw [if_neg c185] at hF
                    refine v_aload_n (i := 0) dX12_sign_95 rfl rfl ?_
                    refine v_iload (i := 4) dX12_sign_96 rfl ?_
                    refine v_iload_n (i := 1) dX12_sign_98 rfl rfl ?_
                    refine v_iconst (v := 0) dX12_sign_99 (by decide) ?_
                    refine v_lconst (v := 0) dX12_sign_100 (by decide) ?_
                    obtain ⟨q186, q186_e, hF⟩ := Option.bind_eq_some_iff.mp hF
                    refine c_X12_200 rfl sh_226 (by exact ltG hG (by decide)) (Nat.le_of_ble_eq_true rfl) dX12_sign_101 (s_X12_token _ q186_e hG) (fun r1 h1 hq => ?_)
                    obtain ⟨rfl, hq, hG⟩ := hq
                    replace hq := hq.symm
                    subst hq
                    simp only [Option.toList, List.nil_append]
                    refine v_iconst (v := 1) dX12_sign_104 (by decide) ?_
                    refine v_ireturn rfl dX12_sign_105 ?_
                    obtain ⟨rfl, rfl⟩ := Prod.mk.inj (Option.some.inj hF)
                    exact ⟨rfl, rfl, hG⟩
                  · rw [if_pos c185] at hF
                    refine v_bipush (v := 13) dX12_sign_91 (by decide) ?_
                    refine v_istore (i := 4) dX12_sign_93 (by decide) (nlT rfl) ?_
                    simp only [List.set_cons_zero, List.set_cons_succ]
                    refine v_aload_n (i := 0) dX12_sign_95 rfl rfl ?_
                    refine v_iload (i := 4) dX12_sign_96 rfl ?_
                    refine v_iload_n (i := 1) dX12_sign_98 rfl rfl ?_
                    refine v_iconst (v := 0) dX12_sign_99 (by decide) ?_
                    refine v_lconst (v := 0) dX12_sign_100 (by decide) ?_
                    obtain ⟨q188, q188_e, hF⟩ := Option.bind_eq_some_iff.mp hF
                    refine c_X12_200 rfl sh_226 (by exact ltG hG (by decide)) (Nat.le_of_ble_eq_true rfl) dX12_sign_101 (s_X12_token _ q188_e hG) (fun r1 h1 hq => ?_)
                    obtain ⟨rfl, hq, hG⟩ := hq
                    replace hq := hq.symm
                    subst hq
                    simp only [Option.toList, List.nil_append]
                    refine v_iconst (v := 1) dX12_sign_104 (by decide) ?_
                    refine v_ireturn rfl dX12_sign_105 ?_
                    obtain ⟨rfl, rfl⟩ := Prod.mk.inj (Option.some.inj hF)
                    exact ⟨rfl, rfl, hG⟩
                · rw [if_pos c184] at hF
                  refine v_bipush (v := 15) dX12_sign_81 (by decide) ?_
                  refine v_istore (i := 4) dX12_sign_83 (by decide) (nlT rfl) ?_
                  simp only [List.set_cons_zero, List.set_cons_succ]
                  refine v_iload_n (i := 2) dX12_sign_85 rfl rfl ?_
                  refine v_bipush (v := 60) dX12_sign_86 (by decide) ?_
                  refine v_icmp_ne 95 dX12_sign_88 (by decide) (fun c190 => ?_) (fun c190 => ?_)
                  · rw [if_neg c190] at hF
                    refine v_aload_n (i := 0) dX12_sign_95 rfl rfl ?_
                    refine v_iload (i := 4) dX12_sign_96 rfl ?_
                    refine v_iload_n (i := 1) dX12_sign_98 rfl rfl ?_
                    refine v_iconst (v := 0) dX12_sign_99 (by decide) ?_
                    refine v_lconst (v := 0) dX12_sign_100 (by decide) ?_
                    obtain ⟨q191, q191_e, hF⟩ := Option.bind_eq_some_iff.mp hF
                    refine c_X12_200 rfl sh_226 (by exact ltG hG (by decide)) (Nat.le_of_ble_eq_true rfl) dX12_sign_101 (s_X12_token _ q191_e hG) (fun r1 h1 hq => ?_)
                    obtain ⟨rfl, hq, hG⟩ := hq
                    replace hq := hq.symm
                    subst hq
                    simp only [Option.toList, List.nil_append]
                    refine v_iconst (v := 1) dX12_sign_104 (by decide) ?_
                    refine v_ireturn rfl dX12_sign_105 ?_
                    obtain ⟨rfl, rfl⟩ := Prod.mk.inj (Option.some.inj hF)
                    exact ⟨rfl, rfl, hG⟩
                  · rw [if_pos c190] at hF
                    refine v_bipush (v := 13) dX12_sign_91 (by decide) ?_
                    refine v_istore (i := 4) dX12_sign_93 (by decide) (nlT rfl) ?_
                    simp only [List.set_cons_zero, List.set_cons_succ]
                    refine v_aload_n (i := 0) dX12_sign_95 rfl rfl ?_
                    refine v_iload (i := 4) dX12_sign_96 rfl ?_
                    refine v_iload_n (i := 1) dX12_sign_98 rfl rfl ?_
                    refine v_iconst (v := 0) dX12_sign_99 (by decide) ?_
                    refine v_lconst (v := 0) dX12_sign_100 (by decide) ?_
                    obtain ⟨q193, q193_e, hF⟩ := Option.bind_eq_some_iff.mp hF
                    refine c_X12_200 rfl sh_226 (by exact ltG hG (by decide)) (Nat.le_of_ble_eq_true rfl) dX12_sign_101 (s_X12_token _ q193_e hG) (fun r1 h1 hq => ?_)
                    obtain ⟨rfl, hq, hG⟩ := hq
                    replace hq := hq.symm
                    subst hq
                    simp only [Option.toList, List.nil_append]
                    refine v_iconst (v := 1) dX12_sign_104 (by decide) ?_
                    refine v_ireturn rfl dX12_sign_105 ?_
                    obtain ⟨rfl, rfl⟩ := Prod.mk.inj (Option.some.inj hF)
                    exact ⟨rfl, rfl, hG⟩
      · rw [if_pos c3] at hF
        refine v_bipush (v := 6) dX12_sign_26 (by decide) ?_
        refine v_goto 43 dX12_sign_28 (by decide) ?_
        refine v_istore (i := 4) dX12_sign_43 (by decide) (nlT rfl) ?_
        simp only [List.set_cons_zero, List.set_cons_succ]
        refine v_iload_n (i := 2) dX12_sign_45 rfl rfl ?_
        refine v_bipush (v := 43) dX12_sign_46 (by decide) ?_
        refine v_icmp_ne 55 dX12_sign_48 (by decide) (fun c195 => ?_) (fun c195 => ?_)
        · rw [if_neg c195] at hF
          refine v_iload_n (i := 2) dX12_sign_55 rfl rfl ?_
          refine v_bipush (v := 45) dX12_sign_56 (by decide) ?_
          refine v_icmp_ne 65 dX12_sign_58 (by decide) (fun c196 => ?_) (fun c196 => ?_)
          · rw [if_neg c196] at hF
            refine v_iload_n (i := 2) dX12_sign_65 rfl rfl ?_
            refine v_bipush (v := 42) dX12_sign_66 (by decide) ?_
            refine v_icmp_ne 75 dX12_sign_68 (by decide) (fun c197 => ?_) (fun c197 => ?_)
            · rw [if_neg c197] at hF
              refine v_iload_n (i := 2) dX12_sign_75 rfl rfl ?_
              refine v_bipush (v := 47) dX12_sign_76 (by decide) ?_
              refine v_icmp_ne 85 dX12_sign_78 (by decide) (fun c198 => ?_) (fun c198 => ?_)
              · rw [if_neg c198] at hF
                refine v_iload_n (i := 2) dX12_sign_85 rfl rfl ?_
                refine v_bipush (v := 60) dX12_sign_86 (by decide) ?_
                refine v_icmp_ne 95 dX12_sign_88 (by decide) (fun c199 => ?_) (fun c199 => ?_)
                · rw [if_neg c199] at hF
                  refine v_aload_n (i := 0) dX12_sign_95 rfl rfl ?_
                  refine v_iload (i := 4) dX12_sign_96 rfl ?_
                  refine v_iload_n (i := 1) dX12_sign_98 rfl rfl ?_
                  refine v_iconst (v := 0) dX12_sign_99 (by decide) ?_
                  refine v_lconst (v := 0) dX12_sign_100 (by decide) ?_
                  obtain ⟨q200, q200_e, hF⟩ := Option.bind_eq_some_iff.mp hF
                  refine c_X12_200 rfl sh_226 (by exact ltG hG (by decide)) (Nat.le_of_ble_eq_true rfl) dX12_sign_101 (s_X12_token _ q200_e hG) (fun r1 h1 hq => ?_)
                  obtain ⟨rfl, hq, hG⟩ := hq
                  replace hq := hq.symm
                  subst hq
                  simp only [Option.toList, List.nil_append]
                  refine v_iconst (v := 1) dX12_sign_104 (by decide) ?_
                  refine v_ireturn rfl dX12_sign_105 ?_
                  obtain ⟨rfl, rfl⟩ := Prod.mk.inj (Option.some.inj hF)
                  exact ⟨rfl, rfl, hG⟩
                · rw [if_pos c199] at hF
                  refine v_bipush (v := 13) dX12_sign_91 (by decide) ?_
                  refine v_istore (i := 4) dX12_sign_93 (by decide) (nlT rfl) ?_
                  simp only [List.set_cons_zero, List.set_cons_succ]
                  refine v_aload_n (i := 0) dX12_sign_95 rfl rfl ?_
                  refine v_iload (i := 4) dX12_sign_96 rfl ?_
                  refine v_iload_n (i := 1) dX12_sign_98 rfl rfl ?_
                  refine v_iconst (v := 0) dX12_sign_99 (by decide) ?_
                  refine v_lconst (v := 0) dX12_sign_100 (by decide) ?_
                  obtain ⟨q202, q202_e, hF⟩ := Option.bind_eq_some_iff.mp hF
                  refine c_X12_200 rfl sh_226 (by exact ltG hG (by decide)) (Nat.le_of_ble_eq_true rfl) dX12_sign_101 (s_X12_token _ q202_e hG) (fun r1 h1 hq => ?_)
                  obtain ⟨rfl, hq, hG⟩ := hq
                  replace hq := hq.symm
                  subst hq
                  simp only [Option.toList, List.nil_append]
                  refine v_iconst (v := 1) dX12_sign_104 (by decide) ?_
                  refine v_ireturn rfl dX12_sign_105 ?_
                  obtain ⟨rfl, rfl⟩ := Prod.mk.inj (Option.some.inj hF)
                  exact ⟨rfl, rfl, hG⟩
              · rw [if_pos c198] at hF
                refine v_bipush (v := 15) dX12_sign_81 (by decide) ?_
                refine v_istore (i := 4) dX12_sign_83 (by decide) (nlT rfl) ?_
                simp only [List.set_cons_zero, List.set_cons_succ]
                refine v_iload_n (i := 2) dX12_sign_85 rfl rfl ?_
                refine v_bipush (v := 60) dX12_sign_86 (by decide) ?_
                refine v_icmp_ne 95 dX12_sign_88 (by decide) (fun c204 => ?_) (fun c204 => ?_)
                · rw [if_neg c204] at hF
                  refine v_aload_n (i := 0) dX12_sign_95 rfl rfl ?_
                  refine v_iload (i := 4) dX12_sign_96 rfl ?_
                  refine v_iload_n (i := 1) dX12_sign_98 rfl rfl ?_
                  refine v_iconst (v := 0) dX12_sign_99 (by decide) ?_
                  refine v_lconst (v := 0) dX12_sign_100 (by decide) ?_
                  obtain ⟨q205, q205_e, hF⟩ := Option.bind_eq_some_iff.mp hF
                  refine c_X12_200 rfl sh_226 (by exact ltG hG (by decide)) (Nat.le_of_ble_eq_true rfl) dX12_sign_101 (s_X12_token _ q205_e hG) (fun r1 h1 hq => ?_)
                  obtain ⟨rfl, hq, hG⟩ := hq
                  replace hq := hq.symm
                  subst hq
                  simp only [Option.toList, List.nil_append]
                  refine v_iconst (v := 1) dX12_sign_104 (by decide) ?_
                  refine v_ireturn rfl dX12_sign_105 ?_
                  obtain ⟨rfl, rfl⟩ := Prod.mk.inj (Option.some.inj hF)
                  exact ⟨rfl, rfl, hG⟩
                · rw [if_pos c204] at hF
                  refine v_bipush (v := 13) dX12_sign_91 (by decide) ?_
                  refine v_istore (i := 4) dX12_sign_93 (by decide) (nlT rfl) ?_
                  simp only [List.set_cons_zero, List.set_cons_succ]
                  refine v_aload_n (i := 0) dX12_sign_95 rfl rfl ?_
                  refine v_iload (i := 4) dX12_sign_96 rfl ?_
                  refine v_iload_n (i := 1) dX12_sign_98 rfl rfl ?_
                  refine v_iconst (v := 0) dX12_sign_99 (by decide) ?_
                  refine v_lconst (v := 0) dX12_sign_100 (by decide) ?_
                  obtain ⟨q207, q207_e, hF⟩ := Option.bind_eq_some_iff.mp hF
                  refine c_X12_200 rfl sh_226 (by exact ltG hG (by decide)) (Nat.le_of_ble_eq_true rfl) dX12_sign_101 (s_X12_token _ q207_e hG) (fun r1 h1 hq => ?_)
                  obtain ⟨rfl, hq, hG⟩ := hq
                  replace hq := hq.symm
                  subst hq
                  simp only [Option.toList, List.nil_append]
                  refine v_iconst (v := 1) dX12_sign_104 (by decide) ?_
                  refine v_ireturn rfl dX12_sign_105 ?_
                  obtain ⟨rfl, rfl⟩ := Prod.mk.inj (Option.some.inj hF)
                  exact ⟨rfl, rfl, hG⟩
            · rw [if_pos c197] at hF
              refine v_bipush (v := 10) dX12_sign_71 (by decide) ?_
              refine v_istore (i := 4) dX12_sign_73 (by decide) (nlT rfl) ?_
              simp only [List.set_cons_zero, List.set_cons_succ]
              refine v_iload_n (i := 2) dX12_sign_75 rfl rfl ?_
              refine v_bipush (v := 47) dX12_sign_76 (by decide) ?_
              refine v_icmp_ne 85 dX12_sign_78 (by decide) (fun c209 => ?_) (fun c209 => ?_)
              · rw [if_neg c209] at hF
                refine v_iload_n (i := 2) dX12_sign_85 rfl rfl ?_
                refine v_bipush (v := 60) dX12_sign_86 (by decide) ?_
                refine v_icmp_ne 95 dX12_sign_88 (by decide) (fun c210 => ?_) (fun c210 => ?_)
                · rw [if_neg c210] at hF
                  refine v_aload_n (i := 0) dX12_sign_95 rfl rfl ?_
                  refine v_iload (i := 4) dX12_sign_96 rfl ?_
                  refine v_iload_n (i := 1) dX12_sign_98 rfl rfl ?_
                  refine v_iconst (v := 0) dX12_sign_99 (by decide) ?_
                  refine v_lconst (v := 0) dX12_sign_100 (by decide) ?_
                  obtain ⟨q211, q211_e, hF⟩ := Option.bind_eq_some_iff.mp hF
                  refine c_X12_200 rfl sh_226 (by exact ltG hG (by decide)) (Nat.le_of_ble_eq_true rfl) dX12_sign_101 (s_X12_token _ q211_e hG) (fun r1 h1 hq => ?_)
                  obtain ⟨rfl, hq, hG⟩ := hq
                  replace hq := hq.symm
                  subst hq
                  simp only [Option.toList, List.nil_append]
                  refine v_iconst (v := 1) dX12_sign_104 (by decide) ?_
                  refine v_ireturn rfl dX12_sign_105 ?_
                  obtain ⟨rfl, rfl⟩ := Prod.mk.inj (Option.some.inj hF)
                  exact ⟨rfl, rfl, hG⟩
                · rw [if_pos c210] at hF
                  refine v_bipush (v := 13) dX12_sign_91 (by decide) ?_
                  refine v_istore (i := 4) dX12_sign_93 (by decide) (nlT rfl) ?_
                  simp only [List.set_cons_zero, List.set_cons_succ]
                  refine v_aload_n (i := 0) dX12_sign_95 rfl rfl ?_
                  refine v_iload (i := 4) dX12_sign_96 rfl ?_
                  refine v_iload_n (i := 1) dX12_sign_98 rfl rfl ?_
                  refine v_iconst (v := 0) dX12_sign_99 (by decide) ?_
                  refine v_lconst (v := 0) dX12_sign_100 (by decide) ?_
                  obtain ⟨q213, q213_e, hF⟩ := Option.bind_eq_some_iff.mp hF
                  refine c_X12_200 rfl sh_226 (by exact ltG hG (by decide)) (Nat.le_of_ble_eq_true rfl) dX12_sign_101 (s_X12_token _ q213_e hG) (fun r1 h1 hq => ?_)
                  obtain ⟨rfl, hq, hG⟩ := hq
                  replace hq := hq.symm
                  subst hq
                  simp only [Option.toList, List.nil_append]
                  refine v_iconst (v := 1) dX12_sign_104 (by decide) ?_
                  refine v_ireturn rfl dX12_sign_105 ?_
                  obtain ⟨rfl, rfl⟩ := Prod.mk.inj (Option.some.inj hF)
                  exact ⟨rfl, rfl, hG⟩
              · rw [if_pos c209] at hF
                refine v_bipush (v := 15) dX12_sign_81 (by decide) ?_
                refine v_istore (i := 4) dX12_sign_83 (by decide) (nlT rfl) ?_
                simp only [List.set_cons_zero, List.set_cons_succ]
                refine v_iload_n (i := 2) dX12_sign_85 rfl rfl ?_
                refine v_bipush (v := 60) dX12_sign_86 (by decide) ?_
                refine v_icmp_ne 95 dX12_sign_88 (by decide) (fun c215 => ?_) (fun c215 => ?_)
                · rw [if_neg c215] at hF
                  refine v_aload_n (i := 0) dX12_sign_95 rfl rfl ?_
                  refine v_iload (i := 4) dX12_sign_96 rfl ?_
                  refine v_iload_n (i := 1) dX12_sign_98 rfl rfl ?_
                  refine v_iconst (v := 0) dX12_sign_99 (by decide) ?_
                  refine v_lconst (v := 0) dX12_sign_100 (by decide) ?_
                  obtain ⟨q216, q216_e, hF⟩ := Option.bind_eq_some_iff.mp hF
                  refine c_X12_200 rfl sh_226 (by exact ltG hG (by decide)) (Nat.le_of_ble_eq_true rfl) dX12_sign_101 (s_X12_token _ q216_e hG) (fun r1 h1 hq => ?_)
                  obtain ⟨rfl, hq, hG⟩ := hq
                  replace hq := hq.symm
                  subst hq
                  simp only [Option.toList, List.nil_append]
                  refine v_iconst (v := 1) dX12_sign_104 (by decide) ?_
                  refine v_ireturn rfl dX12_sign_105 ?_
                  obtain ⟨rfl, rfl⟩ := Prod.mk.inj (Option.some.inj hF)
                  exact ⟨rfl, rfl, hG⟩
                · rw [if_pos c215] at hF
                  refine v_bipush (v := 13) dX12_sign_91 (by decide) ?_
                  refine v_istore (i := 4) dX12_sign_93 (by decide) (nlT rfl) ?_
                  simp only [List.set_cons_zero, List.set_cons_succ]
                  refine v_aload_n (i := 0) dX12_sign_95 rfl rfl ?_
                  refine v_iload (i := 4) dX12_sign_96 rfl ?_
                  refine v_iload_n (i := 1) dX12_sign_98 rfl rfl ?_
                  refine v_iconst (v := 0) dX12_sign_99 (by decide) ?_
                  refine v_lconst (v := 0) dX12_sign_100 (by decide) ?_
                  obtain ⟨q218, q218_e, hF⟩ := Option.bind_eq_some_iff.mp hF
                  refine c_X12_200 rfl sh_226 (by exact ltG hG (by decide)) (Nat.le_of_ble_eq_true rfl) dX12_sign_101 (s_X12_token _ q218_e hG) (fun r1 h1 hq => ?_)
                  obtain ⟨rfl, hq, hG⟩ := hq
                  replace hq := hq.symm
                  subst hq
                  simp only [Option.toList, List.nil_append]
                  refine v_iconst (v := 1) dX12_sign_104 (by decide) ?_
                  refine v_ireturn rfl dX12_sign_105 ?_
                  obtain ⟨rfl, rfl⟩ := Prod.mk.inj (Option.some.inj hF)
                  exact ⟨rfl, rfl, hG⟩
          · rw [if_pos c196] at hF
            refine v_bipush (v := 9) dX12_sign_61 (by decide) ?_
            refine v_istore (i := 4) dX12_sign_63 (by decide) (nlT rfl) ?_
            simp only [List.set_cons_zero, List.set_cons_succ]
            refine v_iload_n (i := 2) dX12_sign_65 rfl rfl ?_
            refine v_bipush (v := 42) dX12_sign_66 (by decide) ?_
            refine v_icmp_ne 75 dX12_sign_68 (by decide) (fun c220 => ?_) (fun c220 => ?_)
            · rw [if_neg c220] at hF
              refine v_iload_n (i := 2) dX12_sign_75 rfl rfl ?_
              refine v_bipush (v := 47) dX12_sign_76 (by decide) ?_
              refine v_icmp_ne 85 dX12_sign_78 (by decide) (fun c221 => ?_) (fun c221 => ?_)
              · rw [if_neg c221] at hF
                refine v_iload_n (i := 2) dX12_sign_85 rfl rfl ?_
                refine v_bipush (v := 60) dX12_sign_86 (by decide) ?_
                refine v_icmp_ne 95 dX12_sign_88 (by decide) (fun c222 => ?_) (fun c222 => ?_)
                · rw [if_neg c222] at hF
                  refine v_aload_n (i := 0) dX12_sign_95 rfl rfl ?_
                  refine v_iload (i := 4) dX12_sign_96 rfl ?_
                  refine v_iload_n (i := 1) dX12_sign_98 rfl rfl ?_
                  refine v_iconst (v := 0) dX12_sign_99 (by decide) ?_
                  refine v_lconst (v := 0) dX12_sign_100 (by decide) ?_
                  obtain ⟨q223, q223_e, hF⟩ := Option.bind_eq_some_iff.mp hF
                  refine c_X12_200 rfl sh_226 (by exact ltG hG (by decide)) (Nat.le_of_ble_eq_true rfl) dX12_sign_101 (s_X12_token _ q223_e hG) (fun r1 h1 hq => ?_)
                  obtain ⟨rfl, hq, hG⟩ := hq
                  replace hq := hq.symm
                  subst hq
                  simp only [Option.toList, List.nil_append]
                  refine v_iconst (v := 1) dX12_sign_104 (by decide) ?_
                  refine v_ireturn rfl dX12_sign_105 ?_
                  obtain ⟨rfl, rfl⟩ := Prod.mk.inj (Option.some.inj hF)
                  exact ⟨rfl, rfl, hG⟩
                · rw [if_pos c222] at hF
                  refine v_bipush (v := 13) dX12_sign_91 (by decide) ?_
                  refine v_istore (i := 4) dX12_sign_93 (by decide) (nlT rfl) ?_
                  simp only [List.set_cons_zero, List.set_cons_succ]
                  refine v_aload_n (i := 0) dX12_sign_95 rfl rfl ?_
                  refine v_iload (i := 4) dX12_sign_96 rfl ?_
                  refine v_iload_n (i := 1) dX12_sign_98 rfl rfl ?_
                  refine v_iconst (v := 0) dX12_sign_99 (by decide) ?_
                  refine v_lconst (v := 0) dX12_sign_100 (by decide) ?_
                  obtain ⟨q225, q225_e, hF⟩ := Option.bind_eq_some_iff.mp hF
                  refine c_X12_200 rfl sh_226 (by exact ltG hG (by decide)) (Nat.le_of_ble_eq_true rfl) dX12_sign_101 (s_X12_token _ q225_e hG) (fun r1 h1 hq => ?_)
                  obtain ⟨rfl, hq, hG⟩ := hq
                  replace hq := hq.symm
                  subst hq
                  simp only [Option.toList, List.nil_append]
                  refine v_iconst (v := 1) dX12_sign_104 (by decide) ?_
                  refine v_ireturn rfl dX12_sign_105 ?_
                  obtain ⟨rfl, rfl⟩ := Prod.mk.inj (Option.some.inj hF)
                  exact ⟨rfl, rfl, hG⟩
              · rw [if_pos c221] at hF
                refine v_bipush (v := 15) dX12_sign_81 (by decide) ?_
                refine v_istore (i := 4) dX12_sign_83 (by decide) (nlT rfl) ?_
                simp only [List.set_cons_zero, List.set_cons_succ]
                refine v_iload_n (i := 2) dX12_sign_85 rfl rfl ?_
                refine v_bipush (v := 60) dX12_sign_86 (by decide) ?_
                refine v_icmp_ne 95 dX12_sign_88 (by decide) (fun c227 => ?_) (fun c227 => ?_)
                · rw [if_neg c227] at hF
                  refine v_aload_n (i := 0) dX12_sign_95 rfl rfl ?_
                  refine v_iload (i := 4) dX12_sign_96 rfl ?_
                  refine v_iload_n (i := 1) dX12_sign_98 rfl rfl ?_
                  refine v_iconst (v := 0) dX12_sign_99 (by decide) ?_
                  refine v_lconst (v := 0) dX12_sign_100 (by decide) ?_
                  obtain ⟨q228, q228_e, hF⟩ := Option.bind_eq_some_iff.mp hF
                  refine c_X12_200 rfl sh_226 (by exact ltG hG (by decide)) (Nat.le_of_ble_eq_true rfl) dX12_sign_101 (s_X12_token _ q228_e hG) (fun r1 h1 hq => ?_)
                  obtain ⟨rfl, hq, hG⟩ := hq
                  replace hq := hq.symm
                  subst hq
                  simp only [Option.toList, List.nil_append]
                  refine v_iconst (v := 1) dX12_sign_104 (by decide) ?_
                  refine v_ireturn rfl dX12_sign_105 ?_
                  obtain ⟨rfl, rfl⟩ := Prod.mk.inj (Option.some.inj hF)
                  exact ⟨rfl, rfl, hG⟩
                · rw [if_pos c227] at hF
                  refine v_bipush (v := 13) dX12_sign_91 (by decide) ?_
                  refine v_istore (i := 4) dX12_sign_93 (by decide) (nlT rfl) ?_
                  simp only [List.set_cons_zero, List.set_cons_succ]
                  refine v_aload_n (i := 0) dX12_sign_95 rfl rfl ?_
                  refine v_iload (i := 4) dX12_sign_96 rfl ?_
                  refine v_iload_n (i := 1) dX12_sign_98 rfl rfl ?_
                  refine v_iconst (v := 0) dX12_sign_99 (by decide) ?_
                  refine v_lconst (v := 0) dX12_sign_100 (by decide) ?_
                  obtain ⟨q230, q230_e, hF⟩ := Option.bind_eq_some_iff.mp hF
                  refine c_X12_200 rfl sh_226 (by exact ltG hG (by decide)) (Nat.le_of_ble_eq_true rfl) dX12_sign_101 (s_X12_token _ q230_e hG) (fun r1 h1 hq => ?_)
                  obtain ⟨rfl, hq, hG⟩ := hq
                  replace hq := hq.symm
                  subst hq
                  simp only [Option.toList, List.nil_append]
                  refine v_iconst (v := 1) dX12_sign_104 (by decide) ?_
                  refine v_ireturn rfl dX12_sign_105 ?_
                  obtain ⟨rfl, rfl⟩ := Prod.mk.inj (Option.some.inj hF)
                  exact ⟨rfl, rfl, hG⟩
            · rw [if_pos c220] at hF
              refine v_bipush (v := 10) dX12_sign_71 (by decide) ?_
              refine v_istore (i := 4) dX12_sign_73 (by decide) (nlT rfl) ?_
              simp only [List.set_cons_zero, List.set_cons_succ]
              refine v_iload_n (i := 2) dX12_sign_75 rfl rfl ?_
              refine v_bipush (v := 47) dX12_sign_76 (by decide) ?_
              refine v_icmp_ne 85 dX12_sign_78 (by decide) (fun c232 => ?_) (fun c232 => ?_)
              · rw [if_neg c232] at hF
                refine v_iload_n (i := 2) dX12_sign_85 rfl rfl ?_
                refine v_bipush (v := 60) dX12_sign_86 (by decide) ?_
                refine v_icmp_ne 95 dX12_sign_88 (by decide) (fun c233 => ?_) (fun c233 => ?_)
                · rw [if_neg c233] at hF
                  refine v_aload_n (i := 0) dX12_sign_95 rfl rfl ?_
                  refine v_iload (i := 4) dX12_sign_96 rfl ?_
                  refine v_iload_n (i := 1) dX12_sign_98 rfl rfl ?_
                  refine v_iconst (v := 0) dX12_sign_99 (by decide) ?_
                  refine v_lconst (v := 0) dX12_sign_100 (by decide) ?_
                  obtain ⟨q234, q234_e, hF⟩ := Option.bind_eq_some_iff.mp hF
                  refine c_X12_200 rfl sh_226 (by exact ltG hG (by decide)) (Nat.le_of_ble_eq_true rfl) dX12_sign_101 (s_X12_token _ q234_e hG) (fun r1 h1 hq => ?_)
                  obtain ⟨rfl, hq, hG⟩ := hq
                  replace hq := hq.symm
                  subst hq
                  simp only [Option.toList, List.nil_append]
                  refine v_iconst (v := 1) dX12_sign_104 (by decide) ?_
                  refine v_ireturn rfl dX12_sign_105 ?_
                  obtain ⟨rfl, rfl⟩ := Prod.mk.inj (Option.some.inj hF)
                  exact ⟨rfl, rfl, hG⟩
                · rw [if_pos c233] at hF
                  refine v_bipush (v := 13) dX12_sign_91 (by decide) ?_
                  refine v_istore (i := 4) dX12_sign_93 (by decide) (nlT rfl) ?_
                  simp only [List.set_cons_zero, List.set_cons_succ]
                  refine v_aload_n (i := 0) dX12_sign_95 rfl rfl ?_
                  refine v_iload (i := 4) dX12_sign_96 rfl ?_
                  refine v_iload_n (i := 1) dX12_sign_98 rfl rfl ?_
                  refine v_iconst (v := 0) dX12_sign_99 (by decide) ?_
                  refine v_lconst (v := 0) dX12_sign_100 (by decide) ?_
                  obtain ⟨q236, q236_e, hF⟩ := Option.bind_eq_some_iff.mp hF
                  refine c_X12_200 rfl sh_226 (by exact ltG hG (by decide)) (Nat.le_of_ble_eq_true rfl) dX12_sign_101 (s_X12_token _ q236_e hG) (fun r1 h1 hq => ?_)
                  obtain ⟨rfl, hq, hG⟩ := hq
                  replace hq := hq.symm
                  subst hq
                  simp only [Option.toList, List.nil_append]
                  refine v_iconst (v := 1) dX12_sign_104 (by decide) ?_
                  refine v_ireturn rfl dX12_sign_105 ?_
                  obtain ⟨rfl, rfl⟩ := Prod.mk.inj (Option.some.inj hF)
                  exact ⟨rfl, rfl, hG⟩
              · rw [if_pos c232] at hF
                refine v_bipush (v := 15) dX12_sign_81 (by decide) ?_
                refine v_istore (i := 4) dX12_sign_83 (by decide) (nlT rfl) ?_
                simp only [List.set_cons_zero, List.set_cons_succ]
                refine v_iload_n (i := 2) dX12_sign_85 rfl rfl ?_
                refine v_bipush (v := 60) dX12_sign_86 (by decide) ?_
                refine v_icmp_ne 95 dX12_sign_88 (by decide) (fun c238 => ?_) (fun c238 => ?_)
                · rw [if_neg c238] at hF
                  refine v_aload_n (i := 0) dX12_sign_95 rfl rfl ?_
                  refine v_iload (i := 4) dX12_sign_96 rfl ?_
                  refine v_iload_n (i := 1) dX12_sign_98 rfl rfl ?_
                  refine v_iconst (v := 0) dX12_sign_99 (by decide) ?_
                  refine v_lconst (v := 0) dX12_sign_100 (by decide) ?_
                  obtain ⟨q239, q239_e, hF⟩ := Option.bind_eq_some_iff.mp hF
                  refine c_X12_200 rfl sh_226 (by exact ltG hG (by decide)) (Nat.le_of_ble_eq_true rfl) dX12_sign_101 (s_X12_token _ q239_e hG) (fun r1 h1 hq => ?_)
                  obtain ⟨rfl, hq, hG⟩ := hq
                  replace hq := hq.symm
                  subst hq
                  simp only [Option.toList, List.nil_append]
                  refine v_iconst (v := 1) dX12_sign_104 (by decide) ?_
                  refine v_ireturn rfl dX12_sign_105 ?_
                  obtain ⟨rfl, rfl⟩ := Prod.mk.inj (Option.some.inj hF)
                  exact ⟨rfl, rfl, hG⟩
                · rw [if_pos c238] at hF
                  refine v_bipush (v := 13) dX12_sign_91 (by decide) ?_
                  refine v_istore (i := 4) dX12_sign_93 (by decide) (nlT rfl) ?_
                  simp only [List.set_cons_zero, List.set_cons_succ]
                  refine v_aload_n (i := 0) dX12_sign_95 rfl rfl ?_
                  refine v_iload (i := 4) dX12_sign_96 rfl ?_
                  refine v_iload_n (i := 1) dX12_sign_98 rfl rfl ?_
                  refine v_iconst (v := 0) dX12_sign_99 (by decide) ?_
                  refine v_lconst (v := 0) dX12_sign_100 (by decide) ?_
                  obtain ⟨q241, q241_e, hF⟩ := Option.bind_eq_some_iff.mp hF
                  refine c_X12_200 rfl sh_226 (by exact ltG hG (by decide)) (Nat.le_of_ble_eq_true rfl) dX12_sign_101 (s_X12_token _ q241_e hG) (fun r1 h1 hq => ?_)
                  obtain ⟨rfl, hq, hG⟩ := hq
                  replace hq := hq.symm
                  subst hq
                  simp only [Option.toList, List.nil_append]
                  refine v_iconst (v := 1) dX12_sign_104 (by decide) ?_
                  refine v_ireturn rfl dX12_sign_105 ?_
                  obtain ⟨rfl, rfl⟩ := Prod.mk.inj (Option.some.inj hF)
                  exact ⟨rfl, rfl, hG⟩
        · rw [if_pos c195] at hF
          refine v_bipush (v := 8) dX12_sign_51 (by decide) ?_
          refine v_istore (i := 4) dX12_sign_53 (by decide) (nlT rfl) ?_
          simp only [List.set_cons_zero, List.set_cons_succ]
          refine v_iload_n (i := 2) dX12_sign_55 rfl rfl ?_
          refine v_bipush (v := 45) dX12_sign_56 (by decide) ?_
          refine v_icmp_ne 65 dX12_sign_58 (by decide) (fun c243 => ?_) (fun c243 => ?_)
          · rw [if_neg c243] at hF
            refine v_iload_n (i := 2) dX12_sign_65 rfl rfl ?_
            refine v_bipush (v := 42) dX12_sign_66 (by decide) ?_
            refine v_icmp_ne 75 dX12_sign_68 (by decide) (fun c244 => ?_) (fun c244 => ?_)
            · rw [if_neg c244] at hF
              refine v_iload_n (i := 2) dX12_sign_75 rfl rfl ?_
              refine v_bipush (v := 47) dX12_sign_76 (by decide) ?_
              refine v_icmp_ne 85 dX12_sign_78 (by decide) (fun c245 => ?_) (fun c245 => ?_)
              · rw [if_neg c245] at hF
                refine v_iload_n (i := 2) dX12_sign_85 rfl rfl ?_
                refine v_bipush (v := 60) dX12_sign_86 (by decide) ?_
                refine v_icmp_ne 95 dX12_sign_88 (by decide) (fun c246 => ?_) (fun c246 => ?_)
                · rw [if_neg c246] at hF
                  refine v_aload_n (i := 0) dX12_sign_95 rfl rfl ?_
                  refine v_iload (i := 4) dX12_sign_96 rfl ?_
                  refine v_iload_n (i := 1) dX12_sign_98 rfl rfl ?_
                  refine v_iconst (v := 0) dX12_sign_99 (by decide) ?_
                  refine v_lconst (v := 0) dX12_sign_100 (by decide) ?_
                  obtain ⟨q247, q247_e, hF⟩ := Option.bind_eq_some_iff.mp hF
                  refine c_X12_200 rfl sh_226 (by exact ltG hG (by decide)) (Nat.le_of_ble_eq_true rfl) dX12_sign_101 (s_X12_token _ q247_e hG) (fun r1 h1 hq => ?_)
                  obtain ⟨rfl, hq, hG⟩ := hq
                  replace hq := hq.symm
                  subst hq
                  simp only [Option.toList, List.nil_append]
                  refine v_iconst (v := 1) dX12_sign_104 (by decide) ?_
                  refine v_ireturn rfl dX12_sign_105 ?_
                  obtain ⟨rfl, rfl⟩ := Prod.mk.inj (Option.some.inj hF)
                  exact ⟨rfl, rfl, hG⟩
                · rw [if_pos c246] at hF
                  refine v_bipush (v := 13) dX12_sign_91 (by decide) ?_
                  refine v_istore (i := 4) dX12_sign_93 (by decide) (nlT rfl) ?_
                  simp only [List.set_cons_zero, List.set_cons_succ]
                  refine v_aload_n (i := 0) dX12_sign_95 rfl rfl ?_
                  refine v_iload (i := 4) dX12_sign_96 rfl ?_
                  refine v_iload_n (i := 1) dX12_sign_98 rfl rfl ?_
                  refine v_iconst (v := 0) dX12_sign_99 (by decide) ?_
                  refine v_lconst (v := 0) dX12_sign_100 (by decide) ?_
                  obtain ⟨q249, q249_e, hF⟩ := Option.bind_eq_some_iff.mp hF
                  refine c_X12_200 rfl sh_226 (by exact ltG hG (by decide)) (Nat.le_of_ble_eq_true rfl) dX12_sign_101 (s_X12_token _ q249_e hG) (fun r1 h1 hq => ?_)
                  obtain ⟨rfl, hq, hG⟩ := hq
                  replace hq := hq.symm
                  subst hq
                  simp only [Option.toList, List.nil_append]
                  refine v_iconst (v := 1) dX12_sign_104 (by decide) ?_
                  refine v_ireturn rfl dX12_sign_105 ?_
                  obtain ⟨rfl, rfl⟩ := Prod.mk.inj (Option.some.inj hF)
                  exact ⟨rfl, rfl, hG⟩
              · rw [if_pos c245] at hF
                refine v_bipush (v := 15) dX12_sign_81 (by decide) ?_
                refine v_istore (i := 4) dX12_sign_83 (by decide) (nlT rfl) ?_
                simp only [List.set_cons_zero, List.set_cons_succ]
                refine v_iload_n (i := 2) dX12_sign_85 rfl rfl ?_
                refine v_bipush (v := 60) dX12_sign_86 (by decide) ?_
                refine v_icmp_ne 95 dX12_sign_88 (by decide) (fun c251 => ?_) (fun c251 => ?_)
                · rw [if_neg c251] at hF
                  refine v_aload_n (i := 0) dX12_sign_95 rfl rfl ?_
                  refine v_iload (i := 4) dX12_sign_96 rfl ?_
                  refine v_iload_n (i := 1) dX12_sign_98 rfl rfl ?_
                  refine v_iconst (v := 0) dX12_sign_99 (by decide) ?_
                  refine v_lconst (v := 0) dX12_sign_100 (by decide) ?_
                  obtain ⟨q252, q252_e, hF⟩ := Option.bind_eq_some_iff.mp hF
                  refine c_X12_200 rfl sh_226 (by exact ltG hG (by decide)) (Nat.le_of_ble_eq_true rfl) dX12_sign_101 (s_X12_token _ q252_e hG) (fun r1 h1 hq => ?_)
                  obtain ⟨rfl, hq, hG⟩ := hq
                  replace hq := hq.symm
                  subst hq
                  simp only [Option.toList, List.nil_append]
                  refine v_iconst (v := 1) dX12_sign_104 (by decide) ?_
                  refine v_ireturn rfl dX12_sign_105 ?_
                  obtain ⟨rfl, rfl⟩ := Prod.mk.inj (Option.some.inj hF)
                  exact ⟨rfl, rfl, hG⟩
                · rw [if_pos c251] at hF
                  refine v_bipush (v := 13) dX12_sign_91 (by decide) ?_
                  refine v_istore (i := 4) dX12_sign_93 (by decide) (nlT rfl) ?_
                  simp only [List.set_cons_zero, List.set_cons_succ]
                  refine v_aload_n (i := 0) dX12_sign_95 rfl rfl ?_
                  refine v_iload (i := 4) dX12_sign_96 rfl ?_
                  refine v_iload_n (i := 1) dX12_sign_98 rfl rfl ?_
                  refine v_iconst (v := 0) dX12_sign_99 (by decide) ?_
                  refine v_lconst (v := 0) dX12_sign_100 (by decide) ?_
                  obtain ⟨q254, q254_e, hF⟩ := Option.bind_eq_some_iff.mp hF
                  refine c_X12_200 rfl sh_226 (by exact ltG hG (by decide)) (Nat.le_of_ble_eq_true rfl) dX12_sign_101 (s_X12_token _ q254_e hG) (fun r1 h1 hq => ?_)
                  obtain ⟨rfl, hq, hG⟩ := hq
                  replace hq := hq.symm
                  subst hq
                  simp only [Option.toList, List.nil_append]
                  refine v_iconst (v := 1) dX12_sign_104 (by decide) ?_
                  refine v_ireturn rfl dX12_sign_105 ?_
                  obtain ⟨rfl, rfl⟩ := Prod.mk.inj (Option.some.inj hF)
                  exact ⟨rfl, rfl, hG⟩
            · rw [if_pos c244] at hF
              refine v_bipush (v := 10) dX12_sign_71 (by decide) ?_
              refine v_istore (i := 4) dX12_sign_73 (by decide) (nlT rfl) ?_
              simp only [List.set_cons_zero, List.set_cons_succ]
              refine v_iload_n (i := 2) dX12_sign_75 rfl rfl ?_
              refine v_bipush (v := 47) dX12_sign_76 (by decide) ?_
              refine v_icmp_ne 85 dX12_sign_78 (by decide) (fun c256 => ?_) (fun c256 => ?_)
              · rw [if_neg c256] at hF
                refine v_iload_n (i := 2) dX12_sign_85 rfl rfl ?_
                refine v_bipush (v := 60) dX12_sign_86 (by decide) ?_
                refine v_icmp_ne 95 dX12_sign_88 (by decide) (fun c257 => ?_) (fun c257 => ?_)
                · rw [if_neg c257] at hF
                  refine v_aload_n (i := 0) dX12_sign_95 rfl rfl ?_
                  refine v_iload (i := 4) dX12_sign_96 rfl ?_
                  refine v_iload_n (i := 1) dX12_sign_98 rfl rfl ?_
                  refine v_iconst (v := 0) dX12_sign_99 (by decide) ?_
                  refine v_lconst (v := 0) dX12_sign_100 (by decide) ?_
                  obtain ⟨q258, q258_e, hF⟩ := Option.bind_eq_some_iff.mp hF
                  refine c_X12_200 rfl sh_226 (by exact ltG hG (by decide)) (Nat.le_of_ble_eq_true rfl) dX12_sign_101 (s_X12_token _ q258_e hG) (fun r1 h1 hq => ?_)
                  obtain ⟨rfl, hq, hG⟩ := hq
                  replace hq := hq.symm
                  subst hq
                  simp only [Option.toList, List.nil_append]
                  refine v_iconst (v := 1) dX12_sign_104 (by decide) ?_
                  refine v_ireturn rfl dX12_sign_105 ?_
                  obtain ⟨rfl, rfl⟩ := Prod.mk.inj (Option.some.inj hF)
                  exact ⟨rfl, rfl, hG⟩
                · rw [if_pos c257] at hF
                  refine v_bipush (v := 13) dX12_sign_91 (by decide) ?_
                  refine v_istore (i := 4) dX12_sign_93 (by decide) (nlT rfl) ?_
                  simp only [List.set_cons_zero, List.set_cons_succ]
                  refine v_aload_n (i := 0) dX12_sign_95 rfl rfl ?_
                  refine v_iload (i := 4) dX12_sign_96 rfl ?_
                  refine v_iload_n (i := 1) dX12_sign_98 rfl rfl ?_
                  refine v_iconst (v := 0) dX12_sign_99 (by decide) ?_
                  refine v_lconst (v := 0) dX12_sign_100 (by decide) ?_
                  obtain ⟨q260, q260_e, hF⟩ := Option.bind_eq_some_iff.mp hF
                  refine c_X12_200 rfl sh_226 (by exact ltG hG (by decide)) (Nat.le_of_ble_eq_true rfl) dX12_sign_101 (s_X12_token _ q260_e hG) (fun r1 h1 hq => ?_)
                  obtain ⟨rfl, hq, hG⟩ := hq
                  replace hq := hq.symm
                  subst hq
                  simp only [Option.toList, List.nil_append]
                  refine v_iconst (v := 1) dX12_sign_104 (by decide) ?_
                  refine v_ireturn rfl dX12_sign_105 ?_
                  obtain ⟨rfl, rfl⟩ := Prod.mk.inj (Option.some.inj hF)
                  exact ⟨rfl, rfl, hG⟩
              · rw [if_pos c256] at hF
                refine v_bipush (v := 15) dX12_sign_81 (by decide) ?_
                refine v_istore (i := 4) dX12_sign_83 (by decide) (nlT rfl) ?_
                simp only [List.set_cons_zero, List.set_cons_succ]
                refine v_iload_n (i := 2) dX12_sign_85 rfl rfl ?_
                refine v_bipush (v := 60) dX12_sign_86 (by decide) ?_
                refine v_icmp_ne 95 dX12_sign_88 (by decide) (fun c262 => ?_) (fun c262 => ?_)
                · rw [if_neg c262] at hF
                  refine v_aload_n (i := 0) dX12_sign_95 rfl rfl ?_
                  refine v_iload (i := 4) dX12_sign_96 rfl ?_
                  refine v_iload_n (i := 1) dX12_sign_98 rfl rfl ?_
                  refine v_iconst (v := 0) dX12_sign_99 (by decide) ?_
                  refine v_lconst (v := 0) dX12_sign_100 (by decide) ?_
                  obtain ⟨q263, q263_e, hF⟩ := Option.bind_eq_some_iff.mp hF
                  refine c_X12_200 rfl sh_226 (by exact ltG hG (by decide)) (Nat.le_of_ble_eq_true rfl) dX12_sign_101 (s_X12_token _ q263_e hG) (fun r1 h1 hq => ?_)
                  obtain ⟨rfl, hq, hG⟩ := hq
                  replace hq := hq.symm
                  subst hq
                  simp only [Option.toList, List.nil_append]
                  refine v_iconst (v := 1) dX12_sign_104 (by decide) ?_
                  refine v_ireturn rfl dX12_sign_105 ?_
                  obtain ⟨rfl, rfl⟩ := Prod.mk.inj (Option.some.inj hF)
                  exact ⟨rfl, rfl, hG⟩
                · rw [if_pos c262] at hF
                  refine v_bipush (v := 13) dX12_sign_91 (by decide) ?_
                  refine v_istore (i := 4) dX12_sign_93 (by decide) (nlT rfl) ?_
                  simp only [List.set_cons_zero, List.set_cons_succ]
                  refine v_aload_n (i := 0) dX12_sign_95 rfl rfl ?_
                  refine v_iload (i := 4) dX12_sign_96 rfl ?_
                  refine v_iload_n (i := 1) dX12_sign_98 rfl rfl ?_
                  refine v_iconst (v := 0) dX12_sign_99 (by decide) ?_
                  refine v_lconst (v := 0) dX12_sign_100 (by decide) ?_
                  obtain ⟨q265, q265_e, hF⟩ := Option.bind_eq_some_iff.mp hF
                  refine c_X12_200 rfl sh_226 (by exact ltG hG (by decide)) (Nat.le_of_ble_eq_true rfl) dX12_sign_101 (s_X12_token _ q265_e hG) (fun r1 h1 hq => ?_)
                  obtain ⟨rfl, hq, hG⟩ := hq
                  replace hq := hq.symm
                  subst hq
                  simp only [Option.toList, List.nil_append]
                  refine v_iconst (v := 1) dX12_sign_104 (by decide) ?_
                  refine v_ireturn rfl dX12_sign_105 ?_
                  obtain ⟨rfl, rfl⟩ := Prod.mk.inj (Option.some.inj hF)
                  exact ⟨rfl, rfl, hG⟩
          · rw [if_pos c243] at hF
            refine v_bipush (v := 9) dX12_sign_61 (by decide) ?_
            refine v_istore (i := 4) dX12_sign_63 (by decide) (nlT rfl) ?_
            simp only [List.set_cons_zero, List.set_cons_succ]
            refine v_iload_n (i := 2) dX12_sign_65 rfl rfl ?_
            refine v_bipush (v := 42) dX12_sign_66 (by decide) ?_
            refine v_icmp_ne 75 dX12_sign_68 (by decide) (fun c267 => ?_) (fun c267 => ?_)
            · rw [if_neg c267] at hF
              refine v_iload_n (i := 2) dX12_sign_75 rfl rfl ?_
              refine v_bipush (v := 47) dX12_sign_76 (by decide) ?_
              refine v_icmp_ne 85 dX12_sign_78 (by decide) (fun c268 => ?_) (fun c268 => ?_)
              · rw [if_neg c268] at hF
                refine v_iload_n (i := 2) dX12_sign_85 rfl rfl ?_
                refine v_bipush (v := 60) dX12_sign_86 (by decide) ?_
                refine v_icmp_ne 95 dX12_sign_88 (by decide) (fun c269 => ?_) (fun c269 => ?_)
                · rw [if_neg c269] at hF
                  refine v_aload_n (i := 0) dX12_sign_95 rfl rfl ?_
                  refine v_iload (i := 4) dX12_sign_96 rfl ?_
                  refine v_iload_n (i := 1) dX12_sign_98 rfl rfl ?_
                  refine v_iconst (v := 0) dX12_sign_99 (by decide) ?_
                  refine v_lconst (v := 0) dX12_sign_100 (by decide) ?_
                  obtain ⟨q270, q270_e, hF⟩ := Option.bind_eq_some_iff.mp hF
                  refine c_X12_200 rfl sh_226 (by exact ltG hG (by decide)) (Nat.le_of_ble_eq_true rfl) dX12_sign_101 (s_X12_token _ q270_e hG) (fun r1 h1 hq => ?_)
                  obtain ⟨rfl, hq, hG⟩ := hq
                  replace hq := hq.symm
                  subst hq
                  simp only [Option.toList, List.nil_append]
                  refine v_iconst (v := 1) dX12_sign_104 (by decide) ?_
                  refine v_ireturn rfl dX12_sign_105 ?_
                  obtain ⟨rfl, rfl⟩ := Prod.mk.inj (Option.some.inj hF)
                  exact ⟨rfl, rfl, hG⟩
                · rw [if_pos c269] at hF
                  refine v_bipush (v := 13) dX12_sign_91 (by decide) ?_
                  refine v_istore (i := 4) dX12_sign_93 (by decide) (nlT rfl) ?_
                  simp only [List.set_cons_zero, List.set_cons_succ]
                  refine v_aload_n (i := 0) dX12_sign_95 rfl rfl ?_
                  refine v_iload (i := 4) dX12_sign_96 rfl ?_
                  refine v_iload_n (i := 1) dX12_sign_98 rfl rfl ?_
                  refine v_iconst (v := 0) dX12_sign_99 (by decide) ?_
                  refine v_lconst (v := 0) dX12_sign_100 (by decide) ?_
                  obtain ⟨q272, q272_e, hF⟩ := Option.bind_eq_some_iff.mp hF
                  refine c_X12_200 rfl sh_226 (by exact ltG hG (by decide)) (Nat.le_of_ble_eq_true rfl) dX12_sign_101 (s_X12_token _ q272_e hG) (fun r1 h1 hq => ?_)
                  obtain ⟨rfl, hq, hG⟩ := hq
                  replace hq := hq.symm
                  subst hq
                  simp only [Option.toList, List.nil_append]
                  refine v_iconst (v := 1) dX12_sign_104 (by decide) ?_
                  refine v_ireturn rfl dX12_sign_105 ?_
                  obtain ⟨rfl, rfl⟩ := Prod.mk.inj (Option.some.inj hF)
                  exact ⟨rfl, rfl, hG⟩
              · rw [if_pos c268] at hF
                refine v_bipush (v := 15) dX12_sign_81 (by decide) ?_
                refine v_istore (i := 4) dX12_sign_83 (by decide) (nlT rfl) ?_
                simp only [List.set_cons_zero, List.set_cons_succ]
                refine v_iload_n (i := 2) dX12_sign_85 rfl rfl ?_
                refine v_bipush (v := 60) dX12_sign_86 (by decide) ?_
                refine v_icmp_ne 95 dX12_sign_88 (by decide) (fun c274 => ?_) (fun c274 => ?_)
                · rw [if_neg c274] at hF
                  refine v_aload_n (i := 0) dX12_sign_95 rfl rfl ?_
                  refine v_iload (i := 4) dX12_sign_96 rfl ?_
                  refine v_iload_n (i := 1) dX12_sign_98 rfl rfl ?_
                  refine v_iconst (v := 0) dX12_sign_99 (by decide) ?_
                  refine v_lconst (v := 0) dX12_sign_100 (by decide) ?_
                  obtain ⟨q275, q275_e, hF⟩ := Option.bind_eq_some_iff.mp hF
                  refine c_X12_200 rfl sh_226 (by exact ltG hG (by decide)) (Nat.le_of_ble_eq_true rfl) dX12_sign_101 (s_X12_token _ q275_e hG) (fun r1 h1 hq => ?_)
                  obtain ⟨rfl, hq, hG⟩ := hq
                  replace hq := hq.symm
                  subst hq
                  simp only [Option.toList, List.nil_append]
                  refine v_iconst (v := 1) dX12_sign_104 (by decide) ?_
                  refine v_ireturn rfl dX12_sign_105 ?_
                  obtain ⟨rfl, rfl⟩ := Prod.mk.inj (Option.some.inj hF)
                  exact ⟨rfl, rfl, hG⟩
                · rw [if_pos c274] at hF
                  refine v_bipush (v := 13) dX12_sign_91 (by decide) ?_
                  refine v_istore (i := 4) dX12_sign_93 (by decide) (nlT rfl) ?_
                  simp only [List.set_cons_zero, List.set_cons_succ]
                  refine v_aload_n (i := 0) dX12_sign_95 rfl rfl ?_
                  refine v_iload (i := 4) dX12_sign_96 rfl ?_
                  refine v_iload_n (i := 1) dX12_sign_98 rfl rfl ?_
                  refine v_iconst (v := 0) dX12_sign_99 (by decide) ?_
                  refine v_lconst (v := 0) dX12_sign_100 (by decide) ?_
                  obtain ⟨q277, q277_e, hF⟩ := Option.bind_eq_some_iff.mp hF
                  refine c_X12_200 rfl sh_226 (by exact ltG hG (by decide)) (Nat.le_of_ble_eq_true rfl) dX12_sign_101 (s_X12_token _ q277_e hG) (fun r1 h1 hq => ?_)
                  obtain ⟨rfl, hq, hG⟩ := hq
                  replace hq := hq.symm
                  subst hq
                  simp only [Option.toList, List.nil_append]
                  refine v_iconst (v := 1) dX12_sign_104 (by decide) ?_
                  refine v_ireturn rfl dX12_sign_105 ?_
                  obtain ⟨rfl, rfl⟩ := Prod.mk.inj (Option.some.inj hF)
                  exact ⟨rfl, rfl, hG⟩
            · rw [if_pos c267] at hF
              refine v_bipush (v := 10) dX12_sign_71 (by decide) ?_
              refine v_istore (i := 4) dX12_sign_73 (by decide) (nlT rfl) ?_
              simp only [List.set_cons_zero, List.set_cons_succ]
              refine v_iload_n (i := 2) dX12_sign_75 rfl rfl ?_
              refine v_bipush (v := 47) dX12_sign_76 (by decide) ?_
              refine v_icmp_ne 85 dX12_sign_78 (by decide) (fun c279 => ?_) (fun c279 => ?_)
              · rw [if_neg c279] at hF
                refine v_iload_n (i := 2) dX12_sign_85 rfl rfl ?_
                refine v_bipush (v := 60) dX12_sign_86 (by decide) ?_
                refine v_icmp_ne 95 dX12_sign_88 (by decide) (fun c280 => ?_) (fun c280 => ?_)
                · rw [if_neg c280] at hF
                  refine v_aload_n (i := 0) dX12_sign_95 rfl rfl ?_
                  refine v_iload (i := 4) dX12_sign_96 rfl ?_
                  refine v_iload_n (i := 1) dX12_sign_98 rfl rfl ?_
                  refine v_iconst (v := 0) dX12_sign_99 (by decide) ?_
                  refine v_lconst (v := 0) dX12_sign_100 (by decide) ?_
                  obtain ⟨q281, q281_e, hF⟩ := Option.bind_eq_some_iff.mp hF
                  refine c_X12_200 rfl sh_226 (by exact ltG hG (by decide)) (Nat.le_of_ble_eq_true rfl) dX12_sign_101 (s_X12_token _ q281_e hG) (fun r1 h1 hq => ?_)
                  obtain ⟨rfl, hq, hG⟩ := hq
                  replace hq := hq.symm
                  subst hq
                  simp only [Option.toList, List.nil_append]
                  refine v_iconst (v := 1) dX12_sign_104 (by decide) ?_
                  refine v_ireturn rfl dX12_sign_105 ?_
                  obtain ⟨rfl, rfl⟩ := Prod.mk.inj (Option.some.inj hF)
                  exact ⟨rfl, rfl, hG⟩
                · rw [if_pos c280] at hF
                  refine v_bipush (v := 13) dX12_sign_91 (by decide) ?_
                  refine v_istore (i := 4) dX12_sign_93 (by decide) (nlT rfl) ?_
                  simp only [List.set_cons_zero, List.set_cons_succ]
                  refine v_aload_n (i := 0) dX12_sign_95 rfl rfl ?_
                  refine v_iload (i := 4) dX12_sign_96 rfl ?_
                  refine v_iload_n (i := 1) dX12_sign_98 rfl rfl ?_
                  refine v_iconst (v := 0) dX12_sign_99 (by decide) ?_
                  refine v_lconst (v := 0) dX12_sign_100 (by decide) ?_
                  obtain ⟨q283, q283_e, hF⟩ := Option.bind_eq_some_iff.mp hF
                  refine c_X12_200 rfl sh_226 (by exact ltG hG (by decide)) (Nat.le_of_ble_eq_true rfl) dX12_sign_101 (s_X12_token _ q283_e hG) (fun r1 h1 hq => ?_)
                  obtain ⟨rfl, hq, hG⟩ := hq
                  replace hq := hq.symm
                  subst hq
                  simp only [Option.toList, List.nil_append]
                  refine v_iconst (v := 1) dX12_sign_104 (by decide) ?_
                  refine v_ireturn rfl dX12_sign_105 ?_
                  obtain ⟨rfl, rfl⟩ := Prod.mk.inj (Option.some.inj hF)
                  exact ⟨rfl, rfl, hG⟩
              · rw [if_pos c279] at hF
                refine v_bipush (v := 15) dX12_sign_81 (by decide) ?_
                refine v_istore (i := 4) dX12_sign_83 (by decide) (nlT rfl) ?_
                simp only [List.set_cons_zero, List.set_cons_succ]
                refine v_iload_n (i := 2) dX12_sign_85 rfl rfl ?_
                refine v_bipush (v := 60) dX12_sign_86 (by decide) ?_
                refine v_icmp_ne 95 dX12_sign_88 (by decide) (fun c285 => ?_) (fun c285 => ?_)
                · rw [if_neg c285] at hF
                  refine v_aload_n (i := 0) dX12_sign_95 rfl rfl ?_
                  refine v_iload (i := 4) dX12_sign_96 rfl ?_
                  refine v_iload_n (i := 1) dX12_sign_98 rfl rfl ?_
                  refine v_iconst (v := 0) dX12_sign_99 (by decide) ?_
                  refine v_lconst (v := 0) dX12_sign_100 (by decide) ?_
                  obtain ⟨q286, q286_e, hF⟩ := Option.bind_eq_some_iff.mp hF
                  refine c_X12_200 rfl sh_226 (by exact ltG hG (by decide)) (Nat.le_of_ble_eq_true rfl) dX12_sign_101 (s_X12_token _ q286_e hG) (fun r1 h1 hq => ?_)
                  obtain ⟨rfl, hq, hG⟩ := hq
                  replace hq := hq.symm
                  subst hq
                  simp only [Option.toList, List.nil_append]
                  refine v_iconst (v := 1) dX12_sign_104 (by decide) ?_
                  refine v_ireturn rfl dX12_sign_105 ?_
                  obtain ⟨rfl, rfl⟩ := Prod.mk.inj (Option.some.inj hF)
                  exact ⟨rfl, rfl, hG⟩
                · rw [if_pos c285] at hF
                  refine v_bipush (v := 13) dX12_sign_91 (by decide) ?_
                  refine v_istore (i := 4) dX12_sign_93 (by decide) (nlT rfl) ?_
                  simp only [List.set_cons_zero, List.set_cons_succ]
                  refine v_aload_n (i := 0) dX12_sign_95 rfl rfl ?_
                  refine v_iload (i := 4) dX12_sign_96 rfl ?_
                  refine v_iload_n (i := 1) dX12_sign_98 rfl rfl ?_
                  refine v_iconst (v := 0) dX12_sign_99 (by decide) ?_
                  refine v_lconst (v := 0) dX12_sign_100 (by decide) ?_
                  obtain ⟨q288, q288_e, hF⟩ := Option.bind_eq_some_iff.mp hF
                  refine c_X12_200 rfl sh_226 (by exact ltG hG (by decide)) (Nat.le_of_ble_eq_true rfl) dX12_sign_101 (s_X12_token _ q288_e hG) (fun r1 h1 hq => ?_)
                  obtain ⟨rfl, hq, hG⟩ := hq
                  replace hq := hq.symm
                  subst hq
                  simp only [Option.toList, List.nil_append]
                  refine v_iconst (v := 1) dX12_sign_104 (by decide) ?_
                  refine v_ireturn rfl dX12_sign_105 ?_
                  obtain ⟨rfl, rfl⟩ := Prod.mk.inj (Option.some.inj hF)
                  exact ⟨rfl, rfl, hG⟩
    · rw [if_pos c2] at hF
      refine v_iconst (v := 5) dX12_sign_16 (by decide) ?_
      refine v_goto 43 dX12_sign_17 (by decide) ?_
      refine v_istore (i := 4) dX12_sign_43 (by decide) (nlT rfl) ?_
      simp only [List.set_cons_zero, List.set_cons_succ]
      refine v_iload_n (i := 2) dX12_sign_45 rfl rfl ?_
      refine v_bipush (v := 43) dX12_sign_46 (by decide) ?_
      refine v_icmp_ne 55 dX12_sign_48 (by decide) (fun c290 => ?_) (fun c290 => ?_)
      · rw [if_neg c290] at hF
        refine v_iload_n (i := 2) dX12_sign_55 rfl rfl ?_
        refine v_bipush (v := 45) dX12_sign_56 (by decide) ?_
        refine v_icmp_ne 65 dX12_sign_58 (by decide) (fun c291 => ?_) (fun c291 => ?_)
        · rw [if_neg c291] at hF
          refine v_iload_n (i := 2) dX12_sign_65 rfl rfl ?_
          refine v_bipush (v := 42) dX12_sign_66 (by decide) ?_
          refine v_icmp_ne 75 dX12_sign_68 (by decide) (fun c292 => ?_) (fun c292 => ?_)
          · rw [if_neg c292] at hF
            refine v_iload_n (i := 2) dX12_sign_75 rfl rfl ?_
            refine v_bipush (v := 47) dX12_sign_76 (by decide) ?_
            refine v_icmp_ne 85 dX12_sign_78 (by decide) (fun c293 => ?_) (fun c293 => ?_)
            · rw [if_neg c293] at hF
              refine v_iload_n (i := 2) dX12_sign_85 rfl rfl ?_
              refine v_bipush (v := 60) dX12_sign_86 (by decide) ?_
              refine v_icmp_ne 95 dX12_sign_88 (by decide) (fun c294 => ?_) (fun c294 => ?_)
              · rw [if_neg c294] at hF
                refine v_aload_n (i := 0) dX12_sign_95 rfl rfl ?_
                refine v_iload (i := 4) dX12_sign_96 rfl ?_
                refine v_iload_n (i := 1) dX12_sign_98 rfl rfl ?_
                refine v_iconst (v := 0) dX12_sign_99 (by decide) ?_
                refine v_lconst (v := 0) dX12_sign_100 (by decide) ?_
                obtain ⟨q295, q295_e, hF⟩ := Option.bind_eq_some_iff.mp hF
                refine c_X12_200 rfl sh_226 (by exact ltG hG (by decide)) (Nat.le_of_ble_eq_true rfl) dX12_sign_101 (s_X12_token _ q295_e hG) (fun r1 h1 hq => ?_)
                obtain ⟨rfl, hq, hG⟩ := hq
                replace hq := hq.symm
                subst hq
                simp only [Option.toList, List.nil_append]
                refine v_iconst (v := 1) dX12_sign_104 (by decide) ?_
                refine v_ireturn rfl dX12_sign_105 ?_
                obtain ⟨rfl, rfl⟩ := Prod.mk.inj (Option.some.inj hF)
                exact ⟨rfl, rfl, hG⟩
              · rw [if_pos c294] at hF
                refine v_bipush (v := 13) dX12_sign_91 (by decide) ?_
                refine v_istore (i := 4) dX12_sign_93 (by decide) (nlT rfl) ?_
                simp only [List.set_cons_zero, List.set_cons_succ]
                refine v_aload_n (i := 0) dX12_sign_95 rfl rfl ?_
                refine v_iload (i := 4) dX12_sign_96 rfl ?_
                refine v_iload_n (i := 1) dX12_sign_98 rfl rfl ?_
                refine v_iconst (v := 0) dX12_sign_99 (by decide) ?_
                refine v_lconst (v := 0) dX12_sign_100 (by decide) ?_
                obtain ⟨q297, q297_e, hF⟩ := Option.bind_eq_some_iff.mp hF
                refine c_X12_200 rfl sh_226 (by exact ltG hG (by decide)) (Nat.le_of_ble_eq_true rfl) dX12_sign_101 (s_X12_token _ q297_e hG) (fun r1 h1 hq => ?_)
                obtain ⟨rfl, hq, hG⟩ := hq
                replace hq := hq.symm
                subst hq
                simp only [Option.toList, List.nil_append]
                refine v_iconst (v := 1) dX12_sign_104 (by decide) ?_
                refine v_ireturn rfl dX12_sign_105 ?_
                obtain ⟨rfl, rfl⟩ := Prod.mk.inj (Option.some.inj hF)
                exact ⟨rfl, rfl, hG⟩
            · rw [if_pos c293] at hF
              refine v_bipush (v := 15) dX12_sign_81 (by decide) ?_
              refine v_istore (i := 4) dX12_sign_83 (by decide) (nlT rfl) ?_
              simp only [List.set_cons_zero, List.set_cons_succ]
              refine v_iload_n (i := 2) dX12_sign_85 rfl rfl ?_
              refine v_bipush (v := 60) dX12_sign_86 (by decide) ?_
              refine v_icmp_ne 95 dX12_sign_88 (by decide) (fun c299 => ?_) (fun c299 => ?_)
              · rw [if_neg c299] at hF
                refine v_aload_n (i := 0) dX12_sign_95 rfl rfl ?_
                refine v_iload (i := 4) dX12_sign_96 rfl ?_
                refine v_iload_n (i := 1) dX12_sign_98 rfl rfl ?_
                refine v_iconst (v := 0) dX12_sign_99 (by decide) ?_
                refine v_lconst (v := 0) dX12_sign_100 (by decide) ?_
                obtain ⟨q300, q300_e, hF⟩ := Option.bind_eq_some_iff.mp hF
                refine c_X12_200 rfl sh_226 (by exact ltG hG (by decide)) (Nat.le_of_ble_eq_true rfl) dX12_sign_101 (s_X12_token _ q300_e hG) (fun r1 h1 hq => ?_)
                obtain ⟨rfl, hq, hG⟩ := hq
                replace hq := hq.symm
                subst hq
                simp only [Option.toList, List.nil_append]
                refine v_iconst (v := 1) dX12_sign_104 (by decide) ?_
                refine v_ireturn rfl dX12_sign_105 ?_
                obtain ⟨rfl, rfl⟩ := Prod.mk.inj (Option.some.inj hF)
                exact ⟨rfl, rfl, hG⟩
              · rw [if_pos c299] at hF
                refine v_bipush (v := 13) dX12_sign_91 (by decide) ?_
                refine v_istore (i := 4) dX12_sign_93 (by decide) (nlT rfl) ?_
                simp only [List.set_cons_zero, List.set_cons_succ]
                refine v_aload_n (i := 0) dX12_sign_95 rfl rfl ?_
                refine v_iload (i := 4) dX12_sign_96 rfl ?_
                refine v_iload_n (i := 1) dX12_sign_98 rfl rfl ?_
                refine v_iconst (v := 0) dX12_sign_99 (by decide) ?_
                refine v_lconst (v := 0) dX12_sign_100 (by decide) ?_
                obtain ⟨q302, q302_e, hF⟩ := Option.bind_eq_some_iff.mp hF
                refine c_X12_200 rfl sh_226 (by exact ltG hG (by decide)) (Nat.le_of_ble_eq_true rfl) dX12_sign_101 (s_X12_token _ q302_e hG) (fun r1 h1 hq => ?_)
                obtain ⟨rfl, hq, hG⟩ := hq
                replace hq := hq.symm
                subst hq
                simp only [Option.toList, List.nil_append]
                refine v_iconst (v := 1) dX12_sign_104 (by decide) ?_
                refine v_ireturn rfl dX12_sign_105 ?_
                obtain ⟨rfl, rfl⟩ := Prod.mk.inj (Option.some.inj hF)
                exact ⟨rfl, rfl, hG⟩
          · rw [if_pos c292] at hF
            refine v_bipush (v := 10) dX12_sign_71 (by decide) ?_
            refine v_istore (i := 4) dX12_sign_73 (by decide) (nlT rfl) ?_
            simp only [List.set_cons_zero, List.set_cons_succ]
            refine v_iload_n (i := 2) dX12_sign_75 rfl rfl ?_
            refine v_bipush (v := 47) dX12_sign_76 (by decide) ?_
            refine v_icmp_ne 85 dX12_sign_78 (by decide) (fun c304 => ?_) (fun c304 => ?_)
            · rw [if_neg c304] at hF
              refine v_iload_n (i := 2) dX12_sign_85 rfl rfl ?_
              refine v_bipush (v := 60) dX12_sign_86 (by decide) ?_
              refine v_icmp_ne 95 dX12_sign_88 (by decide) (fun c305 => ?_) (fun c305 => ?_)
              · rw [if_neg c305] at hF
                refine v_aload_n (i := 0) dX12_sign_95 rfl rfl ?_
                refine v_iload (i := 4) dX12_sign_96 rfl ?_
                refine v_iload_n (i := 1) dX12_sign_98 rfl rfl ?_
                refine v_iconst (v := 0) dX12_sign_99 (by decide) ?_
                refine v_lconst (v := 0) dX12_sign_100 (by decide) ?_
                obtain ⟨q306, q306_e, hF⟩ := Option.bind_eq_some_iff.mp hF
                refine c_X12_200 rfl sh_226 (by exact ltG hG (by decide)) (Nat.le_of_ble_eq_true rfl) dX12_sign_101 (s_X12_token _ q306_e hG) (fun r1 h1 hq => ?_)
                obtain ⟨rfl, hq, hG⟩ := hq
                replace hq := hq.symm
                subst hq
                simp only [Option.toList, List.nil_append]
                refine v_iconst (v := 1) dX12_sign_104 (by decide) ?_
                refine v_ireturn rfl dX12_sign_105 ?_
                obtain ⟨rfl, rfl⟩ := Prod.mk.inj (Option.some.inj hF)
                exact ⟨rfl, rfl, hG⟩
              · rw [if_pos c305] at hF
                refine v_bipush (v := 13) dX12_sign_91 (by decide) ?_
                refine v_istore (i := 4) dX12_sign_93 (by decide) (nlT rfl) ?_
                simp only [List.set_cons_zero, List.set_cons_succ]
                refine v_aload_n (i := 0) dX12_sign_95 rfl rfl ?_
                refine v_iload (i := 4) dX12_sign_96 rfl ?_
                refine v_iload_n (i := 1) dX12_sign_98 rfl rfl ?_
                refine v_iconst (v := 0) dX12_sign_99 (by decide) ?_
                refine v_lconst (v := 0) dX12_sign_100 (by decide) ?_
                obtain ⟨q308, q308_e, hF⟩ := Option.bind_eq_some_iff.mp hF
                refine c_X12_200 rfl sh_226 (by exact ltG hG (by decide)) (Nat.le_of_ble_eq_true rfl) dX12_sign_101 (s_X12_token _ q308_e hG) (fun r1 h1 hq => ?_)
                obtain ⟨rfl, hq, hG⟩ := hq
                replace hq := hq.symm
                subst hq
                simp only [Option.toList, List.nil_append]
                refine v_iconst (v := 1) dX12_sign_104 (by decide) ?_
                refine v_ireturn rfl dX12_sign_105 ?_
                obtain ⟨rfl, rfl⟩ := Prod.mk.inj (Option.some.inj hF)
                exact ⟨rfl, rfl, hG⟩
            · rw [if_pos c304] at hF
              refine v_bipush (v := 15) dX12_sign_81 (by decide) ?_
              refine v_istore (i := 4) dX12_sign_83 (by decide) (nlT rfl) ?_
              simp only [List.set_cons_zero, List.set_cons_succ]
              refine v_iload_n (i := 2) dX12_sign_85 rfl rfl ?_
              refine v_bipush (v := 60) dX12_sign_86 (by decide) ?_
              refine v_icmp_ne 95 dX12_sign_88 (by decide) (fun c310 => ?_) (fun c310 => ?_)
              · rw [if_neg c310] at hF
                refine v_aload_n (i := 0) dX12_sign_95 rfl rfl ?_
                refine v_iload (i := 4) dX12_sign_96 rfl ?_
                refine v_iload_n (i := 1) dX12_sign_98 rfl rfl ?_
                refine v_iconst (v := 0) dX12_sign_99 (by decide) ?_
                refine v_lconst (v := 0) dX12_sign_100 (by decide) ?_
                obtain ⟨q311, q311_e, hF⟩ := Option.bind_eq_some_iff.mp hF
                refine c_X12_200 rfl sh_226 (by exact ltG hG (by decide)) (Nat.le_of_ble_eq_true rfl) dX12_sign_101 (s_X12_token _ q311_e hG) (fun r1 h1 hq => ?_)
                obtain ⟨rfl, hq, hG⟩ := hq
                replace hq := hq.symm
                subst hq
                simp only [Option.toList, List.nil_append]
                refine v_iconst (v := 1) dX12_sign_104 (by decide) ?_
                refine v_ireturn rfl dX12_sign_105 ?_
                obtain ⟨rfl, rfl⟩ := Prod.mk.inj (Option.some.inj hF)
                exact ⟨rfl, rfl, hG⟩
              · rw [if_pos c310] at hF
                refine v_bipush (v := 13) dX12_sign_91 (by decide) ?_
                refine v_istore (i := 4) dX12_sign_93 (by decide) (nlT rfl) ?_
                simp only [List.set_cons_zero, List.set_cons_succ]
                refine v_aload_n (i := 0) dX12_sign_95 rfl rfl ?_
                refine v_iload (i := 4) dX12_sign_96 rfl ?_
                refine v_iload_n (i := 1) dX12_sign_98 rfl rfl ?_
                refine v_iconst (v := 0) dX12_sign_99 (by decide) ?_
                refine v_lconst (v := 0) dX12_sign_100 (by decide) ?_
                obtain ⟨q313, q313_e, hF⟩ := Option.bind_eq_some_iff.mp hF
                refine c_X12_200 rfl sh_226 (by exact ltG hG (by decide)) (Nat.le_of_ble_eq_true rfl) dX12_sign_101 (s_X12_token _ q313_e hG) (fun r1 h1 hq => ?_)
                obtain ⟨rfl, hq, hG⟩ := hq
                replace hq := hq.symm
                subst hq
                simp only [Option.toList, List.nil_append]
                refine v_iconst (v := 1) dX12_sign_104 (by decide) ?_
                refine v_ireturn rfl dX12_sign_105 ?_
                obtain ⟨rfl, rfl⟩ := Prod.mk.inj (Option.some.inj hF)
                exact ⟨rfl, rfl, hG⟩
        · rw [if_pos c291] at hF
          refine v_bipush (v := 9) dX12_sign_61 (by decide) ?_
          refine v_istore (i := 4) dX12_sign_63 (by decide) (nlT rfl) ?_
          simp only [List.set_cons_zero, List.set_cons_succ]
          refine v_iload_n (i := 2) dX12_sign_65 rfl rfl ?_
          refine v_bipush (v := 42) dX12_sign_66 (by decide) ?_
          refine v_icmp_ne 75 dX12_sign_68 (by decide) (fun c315 => ?_) (fun c315 => ?_)
          · rw [if_neg c315] at hF
            refine v_iload_n (i := 2) dX12_sign_75 rfl rfl ?_
            refine v_bipush (v := 47) dX12_sign_76 (by decide) ?_
            refine v_icmp_ne 85 dX12_sign_78 (by decide) (fun c316 => ?_) (fun c316 => ?_)
            · rw [if_neg c316] at hF
              refine v_iload_n (i := 2) dX12_sign_85 rfl rfl ?_
              refine v_bipush (v := 60) dX12_sign_86 (by decide) ?_
              refine v_icmp_ne 95 dX12_sign_88 (by decide) (fun c317 => ?_) (fun c317 => ?_)
              · rw [if_neg c317] at hF
                refine v_aload_n (i := 0) dX12_sign_95 rfl rfl ?_
                refine v_iload (i := 4) dX12_sign_96 rfl ?_
                refine v_iload_n (i := 1) dX12_sign_98 rfl rfl ?_
                refine v_iconst (v := 0) dX12_sign_99 (by decide) ?_
                refine v_lconst (v := 0) dX12_sign_100 (by decide) ?_
                obtain ⟨q318, q318_e, hF⟩ := Option.bind_eq_some_iff.mp hF
                refine c_X12_200 rfl sh_226 (by exact ltG hG (by decide)) (Nat.le_of_ble_eq_true rfl) dX12_sign_101 (s_X12_token _ q318_e hG) (fun r1 h1 hq => ?_)
                obtain ⟨rfl, hq, hG⟩ := hq
                replace hq := hq.symm
                subst hq
                simp only [Option.toList, List.nil_append]
                refine v_iconst (v := 1) dX12_sign_104 (by decide) ?_
                refine v_ireturn rfl dX12_sign_105 ?_
                obtain ⟨rfl, rfl⟩ := Prod.mk.inj (Option.some.inj hF)
                exact ⟨rfl, rfl, hG⟩
              · rw [if_pos c317] at hF
                refine v_bipush (v := 13) dX12_sign_91 (by decide) ?_
                refine v_istore (i := 4) dX12_sign_93 (by decide) (nlT rfl) ?_
                simp only [List.set_cons_zero, List.set_cons_succ]
                refine v_aload_n (i := 0) dX12_sign_95 rfl rfl ?_
                refine v_iload (i := 4) dX12_sign_96 rfl ?_
                refine v_iload_n (i := 1) dX12_sign_98 rfl rfl ?_
                refine v_iconst (v := 0) dX12_sign_99 (by decide) ?_
                refine v_lconst (v := 0) dX12_sign_100 (by decide) ?_
                obtain ⟨q320, q320_e, hF⟩ := Option.bind_eq_some_iff.mp hF
                refine c_X12_200 rfl sh_226 (by exact ltG hG (by decide)) (Nat.le_of_ble_eq_true rfl) dX12_sign_101 (s_X12_token _ q320_e hG) (fun r1 h1 hq => ?_)
                obtain ⟨rfl, hq, hG⟩ := hq
                replace hq := hq.symm
                subst hq
                simp only [Option.toList, List.nil_append]
                refine v_iconst (v := 1) dX12_sign_104 (by decide) ?_
                refine v_ireturn rfl dX12_sign_105 ?_
                obtain ⟨rfl, rfl⟩ := Prod.mk.inj (Option.some.inj hF)
                exact ⟨rfl, rfl, hG⟩
            · rw [if_pos c316] at hF
              refine v_bipush (v := 15) dX12_sign_81 (by decide) ?_
              refine v_istore (i := 4) dX12_sign_83 (by decide) (nlT rfl) ?_
              simp only [List.set_cons_zero, List.set_cons_succ]
              refine v_iload_n (i := 2) dX12_sign_85 rfl rfl ?_
              refine v_bipush (v := 60) dX12_sign_86 (by decide) ?_
              refine v_icmp_ne 95 dX12_sign_88 (by decide) (fun c322 => ?_) (fun c322 => ?_)
              · rw [if_neg c322] at hF
                refine v_aload_n (i := 0) dX12_sign_95 rfl rfl ?_
                refine v_iload (i := 4) dX12_sign_96 rfl ?_
                refine v_iload_n (i := 1) dX12_sign_98 rfl rfl ?_
                refine v_iconst (v := 0) dX12_sign_99 (by decide) ?_
                refine v_lconst (v := 0) dX12_sign_100 (by decide) ?_
                obtain ⟨q323, q323_e, hF⟩ := Option.bind_eq_some_iff.mp hF
                refine c_X12_200 rfl sh_226 (by exact ltG hG (by decide)) (Nat.le_of_ble_eq_true rfl) dX12_sign_101 (s_X12_token _ q323_e hG) (fun r1 h1 hq => ?_)
                obtain ⟨rfl, hq, hG⟩ := hq
                replace hq := hq.symm
                subst hq
                simp only [Option.toList, List.nil_append]
                refine v_iconst (v := 1) dX12_sign_104 (by decide) ?_
                refine v_ireturn rfl dX12_sign_105 ?_
                obtain ⟨rfl, rfl⟩ := Prod.mk.inj (Option.some.inj hF)
                exact ⟨rfl, rfl, hG⟩
              · rw [if_pos c322] at hF
                refine v_bipush (v := 13) dX12_sign_91 (by decide) ?_
                refine v_istore (i := 4) dX12_sign_93 (by decide) (nlT rfl) ?_
                simp only [List.set_cons_zero, List.set_cons_succ]
                refine v_aload_n (i := 0) dX12_sign_95 rfl rfl ?_
                refine v_iload (i := 4) dX12_sign_96 rfl ?_
                refine v_iload_n (i := 1) dX12_sign_98 rfl rfl ?_
                refine v_iconst (v := 0) dX12_sign_99 (by decide) ?_
                refine v_lconst (v := 0) dX12_sign_100 (by decide) ?_
                obtain ⟨q325, q325_e, hF⟩ := Option.bind_eq_some_iff.mp hF
                refine c_X12_200 rfl sh_226 (by exact ltG hG (by decide)) (Nat.le_of_ble_eq_true rfl) dX12_sign_101 (s_X12_token _ q325_e hG) (fun r1 h1 hq => ?_)
                obtain ⟨rfl, hq, hG⟩ := hq
                replace hq := hq.symm
                subst hq
                simp only [Option.toList, List.nil_append]
                refine v_iconst (v := 1) dX12_sign_104 (by decide) ?_
                refine v_ireturn rfl dX12_sign_105 ?_
                obtain ⟨rfl, rfl⟩ := Prod.mk.inj (Option.some.inj hF)
                exact ⟨rfl, rfl, hG⟩
          · rw [if_pos c315] at hF
            refine v_bipush (v := 10) dX12_sign_71 (by decide) ?_
            refine v_istore (i := 4) dX12_sign_73 (by decide) (nlT rfl) ?_
            simp only [List.set_cons_zero, List.set_cons_succ]
            refine v_iload_n (i := 2) dX12_sign_75 rfl rfl ?_
            refine v_bipush (v := 47) dX12_sign_76 (by decide) ?_
            refine v_icmp_ne 85 dX12_sign_78 (by decide) (fun c327 => ?_) (fun c327 => ?_)
            · rw [if_neg c327] at hF
              refine v_iload_n (i := 2) dX12_sign_85 rfl rfl ?_
              refine v_bipush (v := 60) dX12_sign_86 (by decide) ?_
              refine v_icmp_ne 95 dX12_sign_88 (by decide) (fun c328 => ?_) (fun c328 => ?_)
              · rw [if_neg c328] at hF
                refine v_aload_n (i := 0) dX12_sign_95 rfl rfl ?_
                refine v_iload (i := 4) dX12_sign_96 rfl ?_
                refine v_iload_n (i := 1) dX12_sign_98 rfl rfl ?_
                refine v_iconst (v := 0) dX12_sign_99 (by decide) ?_
                refine v_lconst (v := 0) dX12_sign_100 (by decide) ?_
                obtain ⟨q329, q329_e, hF⟩ := Option.bind_eq_some_iff.mp hF
                refine c_X12_200 rfl sh_226 (by exact ltG hG (by decide)) (Nat.le_of_ble_eq_true rfl) dX12_sign_101 (s_X12_token _ q329_e hG) (fun r1 h1 hq => ?_)
                obtain ⟨rfl, hq, hG⟩ := hq
                replace hq := hq.symm
                subst hq
                simp only [Option.toList, List.nil_append]
                refine v_iconst (v := 1) dX12_sign_104 (by decide) ?_
                refine v_ireturn rfl dX12_sign_105 ?_
                obtain ⟨rfl, rfl⟩ := Prod.mk.inj (Option.some.inj hF)
                exact ⟨rfl, rfl, hG⟩
              · rw [if_pos c328] at hF
                refine v_bipush (v := 13) dX12_sign_91 (by decide) ?_
                refine v_istore (i := 4) dX12_sign_93 (by decide) (nlT rfl) ?_
                simp only [List.set_cons_zero, List.set_cons_succ]
                refine v_aload_n (i := 0) dX12_sign_95 rfl rfl ?_
                refine v_iload (i := 4) dX12_sign_96 rfl ?_
                refine v_iload_n (i := 1) dX12_sign_98 rfl rfl ?_
                refine v_iconst (v := 0) dX12_sign_99 (by decide) ?_
                refine v_lconst (v := 0) dX12_sign_100 (by decide) ?_
                obtain ⟨q331, q331_e, hF⟩ := Option.bind_eq_some_iff.mp hF
                refine c_X12_200 rfl sh_226 (by exact ltG hG (by decide)) (Nat.le_of_ble_eq_true rfl) dX12_sign_101 (s_X12_token _ q331_e hG) (fun r1 h1 hq => ?_)
                obtain ⟨rfl, hq, hG⟩ := hq
                replace hq := hq.symm
                subst hq
                simp only [Option.toList, List.nil_append]
                refine v_iconst (v := 1) dX12_sign_104 (by decide) ?_
                refine v_ireturn rfl dX12_sign_105 ?_
                obtain ⟨rfl, rfl⟩ := Prod.mk.inj (Option.some.inj hF)
                exact ⟨rfl, rfl, hG⟩
            · rw [if_pos c327] at hF
              refine v_bipush (v := 15) dX12_sign_81 (by decide) ?_
              refine v_istore (i := 4) dX12_sign_83 (by decide) (nlT rfl) ?_
              simp only [List.set_cons_zero, List.set_cons_succ]
              refine v_iload_n (i := 2) dX12_sign_85 rfl rfl ?_
              refine v_bipush (v := 60) dX12_sign_86 (by decide) ?_
              refine v_icmp_ne 95 dX12_sign_88 (by decide) (fun c333 => ?_) (fun c333 => ?_)
              · rw [if_neg c333] at hF
                refine v_aload_n (i := 0) dX12_sign_95 rfl rfl ?_
                refine v_iload (i := 4) dX12_sign_96 rfl ?_
                refine v_iload_n (i := 1) dX12_sign_98 rfl rfl ?_
                refine v_iconst (v := 0) dX12_sign_99 (by decide) ?_
                refine v_lconst (v := 0) dX12_sign_100 (by decide) ?_
                obtain ⟨q334, q334_e, hF⟩ := Option.bind_eq_some_iff.mp hF
                refine c_X12_200 rfl sh_226 (by exact ltG hG (by decide)) (Nat.le_of_ble_eq_true rfl) dX12_sign_101 (s_X12_token _ q334_e hG) (fun r1 h1 hq => ?_)
                obtain ⟨rfl, hq, hG⟩ := hq
                replace hq := hq.symm
                subst hq
                simp only [Option.toList, List.nil_append]
                refine v_iconst (v := 1) dX12_sign_104 (by decide) ?_
                refine v_ireturn rfl dX12_sign_105 ?_
                obtain ⟨rfl, rfl⟩ := Prod.mk.inj (Option.some.inj hF)
                exact ⟨rfl, rfl, hG⟩
              · rw [if_pos c333] at hF
                refine v_bipush (v := 13) dX12_sign_91 (by decide) ?_
                refine v_istore (i := 4) dX12_sign_93 (by decide) (nlT rfl) ?_
                simp only [List.set_cons_zero, List.set_cons_succ]
                refine v_aload_n (i := 0) dX12_sign_95 rfl rfl ?_
                refine v_iload (i := 4) dX12_sign_96 rfl ?_
                refine v_iload_n (i := 1) dX12_sign_98 rfl rfl ?_
                refine v_iconst (v := 0) dX12_sign_99 (by decide) ?_
                refine v_lconst (v := 0) dX12_sign_100 (by decide) ?_
                obtain ⟨q336, q336_e, hF⟩ := Option.bind_eq_some_iff.mp hF
                refine c_X12_200 rfl sh_226 (by exact ltG hG (by decide)) (Nat.le_of_ble_eq_true rfl) dX12_sign_101 (s_X12_token _ q336_e hG) (fun r1 h1 hq => ?_)
                obtain ⟨rfl, hq, hG⟩ := hq
                replace hq := hq.symm
                subst hq
                simp only [Option.toList, List.nil_append]
                refine v_iconst (v := 1) dX12_sign_104 (by decide) ?_
                refine v_ireturn rfl dX12_sign_105 ?_
                obtain ⟨rfl, rfl⟩ := Prod.mk.inj (Option.some.inj hF)
                exact ⟨rfl, rfl, hG⟩
      · rw [if_pos c290] at hF
        refine v_bipush (v := 8) dX12_sign_51 (by decide) ?_
        refine v_istore (i := 4) dX12_sign_53 (by decide) (nlT rfl) ?_
        simp only [List.set_cons_zero, List.set_cons_succ]
        refine v_iload_n (i := 2) dX12_sign_55 rfl rfl ?_
        refine v_bipush (v := 45) dX12_sign_56 (by decide) ?_
        refine v_icmp_ne 65 dX12_sign_58 (by decide) (fun c338 => ?_) (fun c338 => ?_)
        · rw [if_neg c338] at hF
          refine v_iload_n (i := 2) dX12_sign_65 rfl rfl ?_
          refine v_bipush (v := 42) dX12_sign_66 (by decide) ?_
          refine v_icmp_ne 75 dX12_sign_68 (by decide) (fun c339 => ?_) (fun c339 => ?_)
          · rw [if_neg c339] at hF
            refine v_iload_n (i := 2) dX12_sign_75 rfl rfl ?_
            refine v_bipush (v := 47) dX12_sign_76 (by decide) ?_
            refine v_icmp_ne 85 dX12_sign_78 (by decide) (fun c340 => ?_) (fun c340 => ?_)
            · rw [if_neg c340] at hF
              refine v_iload_n (i := 2) dX12_sign_85 rfl rfl ?_
              refine v_bipush (v := 60) dX12_sign_86 (by decide) ?_
              refine v_icmp_ne 95 dX12_sign_88 (by decide) (fun c341 => ?_) (fun c341 => ?_)
              · rw [if_neg c341] at hF
                refine v_aload_n (i := 0) dX12_sign_95 rfl rfl ?_
                refine v_iload (i := 4) dX12_sign_96 rfl ?_
                refine v_iload_n (i := 1) dX12_sign_98 rfl rfl ?_
                refine v_iconst (v := 0) dX12_sign_99 (by decide) ?_
                refine v_lconst (v := 0) dX12_sign_100 (by decide) ?_
                obtain ⟨q342, q342_e, hF⟩ := Option.bind_eq_some_iff.mp hF
                refine c_X12_200 rfl sh_226 (by exact ltG hG (by decide)) (Nat.le_of_ble_eq_true rfl) dX12_sign_101 (s_X12_token _ q342_e hG) (fun r1 h1 hq => ?_)
                obtain ⟨rfl, hq, hG⟩ := hq
                replace hq := hq.symm
                subst hq
                simp only [Option.toList, List.nil_append]
                refine v_iconst (v := 1) dX12_sign_104 (by decide) ?_
                refine v_ireturn rfl dX12_sign_105 ?_
                obtain ⟨rfl, rfl⟩ := Prod.mk.inj (Option.some.inj hF)
                exact ⟨rfl, rfl, hG⟩
              · rw [if_pos c341] at hF
                refine v_bipush (v := 13) dX12_sign_91 (by decide) ?_
                refine v_istore (i := 4) dX12_sign_93 (by decide) (nlT rfl) ?_
                simp only [List.set_cons_zero, List.set_cons_succ]
                refine v_aload_n (i := 0) dX12_sign_95 rfl rfl ?_
                refine v_iload (i := 4) dX12_sign_96 rfl ?_
                refine v_iload_n (i := 1) dX12_sign_98 rfl rfl ?_
                refine v_iconst (v := 0) dX12_sign_99 (by decide) ?_
                refine v_lconst (v := 0) dX12_sign_100 (by decide) ?_
                obtain ⟨q344, q344_e, hF⟩ := Option.bind_eq_some_iff.mp hF
                refine c_X12_200 rfl sh_226 (by exact ltG hG (by decide)) (Nat.le_of_ble_eq_true rfl) dX12_sign_101 (s_X12_token _ q344_e hG) (fun r1 h1 hq => ?_)
                obtain ⟨rfl, hq, hG⟩ := hq
                replace hq := hq.symm
                subst hq
                simp only [Option.toList, List.nil_append]
                refine v_iconst (v := 1) dX12_sign_104 (by decide) ?_
                refine v_ireturn rfl dX12_sign_105 ?_
                obtain ⟨rfl, rfl⟩ := Prod.mk.inj (Option.some.inj hF)
                exact ⟨rfl, rfl, hG⟩
            · rw [if_pos c340] at hF
              refine v_bipush (v := 15) dX12_sign_81 (by decide) ?_
              refine v_istore (i := 4) dX12_sign_83 (by decide) (nlT rfl) ?_
              simp only [List.set_cons_zero, List.set_cons_succ]
              refine v_iload_n (i := 2) dX12_sign_85 rfl rfl ?_
              refine v_bipush (v := 60) dX12_sign_86 (by decide) ?_
              refine v_icmp_ne 95 dX12_sign_88 (by decide) (fun c346 => ?_) (fun c346 => ?_)
              · rw [if_neg c346] at hF
                refine v_aload_n (i := 0) dX12_sign_95 rfl rfl ?_
                refine v_iload (i := 4) dX12_sign_96 rfl ?_
                refine v_iload_n (i := 1) dX12_sign_98 rfl rfl ?_
                refine v_iconst (v := 0) dX12_sign_99 (by decide) ?_
                refine v_lconst (v := 0) dX12_sign_100 (by decide) ?_
                obtain ⟨q347, q347_e, hF⟩ := Option.bind_eq_some_iff.mp hF
                refine c_X12_200 rfl sh_226 (by exact ltG hG (by decide)) (Nat.le_of_ble_eq_true rfl) dX12_sign_101 (s_X12_token _ q347_e hG) (fun r1 h1 hq => ?_)
                obtain ⟨rfl, hq, hG⟩ := hq
                replace hq := hq.symm
                subst hq
                simp only [Option.toList, List.nil_append]
                refine v_iconst (v := 1) dX12_sign_104 (by decide) ?_
                refine v_ireturn rfl dX12_sign_105 ?_
                obtain ⟨rfl, rfl⟩ := Prod.mk.inj (Option.some.inj hF)
                exact ⟨rfl, rfl, hG⟩
              · rw [if_pos c346] at hF
                refine v_bipush (v := 13) dX12_sign_91 (by decide) ?_
                refine v_istore (i := 4) dX12_sign_93 (by decide) (nlT rfl) ?_
                simp only [List.set_cons_zero, List.set_cons_succ]
                refine v_aload_n (i := 0) dX12_sign_95 rfl rfl ?_
                refine v_iload (i := 4) dX12_sign_96 rfl ?_
                refine v_iload_n (i := 1) dX12_sign_98 rfl rfl ?_
                refine v_iconst (v := 0) dX12_sign_99 (by decide) ?_
                refine v_lconst (v := 0) dX12_sign_100 (by decide) ?_
                obtain ⟨q349, q349_e, hF⟩ := Option.bind_eq_some_iff.mp hF
                refine c_X12_200 rfl sh_226 (by exact ltG hG (by decide)) (Nat.le_of_ble_eq_true rfl) dX12_sign_101 (s_X12_token _ q349_e hG) (fun r1 h1 hq => ?_)
                obtain ⟨rfl, hq, hG⟩ := hq
                replace hq := hq.symm
                subst hq
                simp only [Option.toList, List.nil_append]
                refine v_iconst (v := 1) dX12_sign_104 (by decide) ?_
                refine v_ireturn rfl dX12_sign_105 ?_
                obtain ⟨rfl, rfl⟩ := Prod.mk.inj (Option.some.inj hF)
                exact ⟨rfl, rfl, hG⟩
          · rw [if_pos c339] at hF
            refine v_bipush (v := 10) dX12_sign_71 (by decide) ?_
            refine v_istore (i := 4) dX12_sign_73 (by decide) (nlT rfl) ?_
            simp only [List.set_cons_zero, List.set_cons_succ]
            refine v_iload_n (i := 2) dX12_sign_75 rfl rfl ?_
            refine v_bipush (v := 47) dX12_sign_76 (by decide) ?_
            refine v_icmp_ne 85 dX12_sign_78 (by decide) (fun c351 => ?_) (fun c351 => ?_)
            · rw [if_neg c351] at hF
              refine v_iload_n (i := 2) dX12_sign_85 rfl rfl ?_
              refine v_bipush (v := 60) dX12_sign_86 (by decide) ?_
              refine v_icmp_ne 95 dX12_sign_88 (by decide) (fun c352 => ?_) (fun c352 => ?_)
              · rw [if_neg c352] at hF
                refine v_aload_n (i := 0) dX12_sign_95 rfl rfl ?_
                refine v_iload (i := 4) dX12_sign_96 rfl ?_
                refine v_iload_n (i := 1) dX12_sign_98 rfl rfl ?_
                refine v_iconst (v := 0) dX12_sign_99 (by decide) ?_
                refine v_lconst (v := 0) dX12_sign_100 (by decide) ?_
                obtain ⟨q353, q353_e, hF⟩ := Option.bind_eq_some_iff.mp hF
                refine c_X12_200 rfl sh_226 (by exact ltG hG (by decide)) (Nat.le_of_ble_eq_true rfl) dX12_sign_101 (s_X12_token _ q353_e hG) (fun r1 h1 hq => ?_)
                obtain ⟨rfl, hq, hG⟩ := hq
                replace hq := hq.symm
                subst hq
                simp only [Option.toList, List.nil_append]
                refine v_iconst (v := 1) dX12_sign_104 (by decide) ?_
                refine v_ireturn rfl dX12_sign_105 ?_
                obtain ⟨rfl, rfl⟩ := Prod.mk.inj (Option.some.inj hF)
                exact ⟨rfl, rfl, hG⟩
              · rw [if_pos c352] at hF
                refine v_bipush (v := 13) dX12_sign_91 (by decide) ?_
                refine v_istore (i := 4) dX12_sign_93 (by decide) (nlT rfl) ?_
                simp only [List.set_cons_zero, List.set_cons_succ]
                refine v_aload_n (i := 0) dX12_sign_95 rfl rfl ?_
                refine v_iload (i := 4) dX12_sign_96 rfl ?_
                refine v_iload_n (i := 1) dX12_sign_98 rfl rfl ?_
                refine v_iconst (v := 0) dX12_sign_99 (by decide) ?_
                refine v_lconst (v := 0) dX12_sign_100 (by decide) ?_
                obtain ⟨q355, q355_e, hF⟩ := Option.bind_eq_some_iff.mp hF
                refine c_X12_200 rfl sh_226 (by exact ltG hG (by decide)) (Nat.le_of_ble_eq_true rfl) dX12_sign_101 (s_X12_token _ q355_e hG) (fun r1 h1 hq => ?_)
                obtain ⟨rfl, hq, hG⟩ := hq
                replace hq := hq.symm
                subst hq
                simp only [Option.toList, List.nil_append]
                refine v_iconst (v := 1) dX12_sign_104 (by decide) ?_
                refine v_ireturn rfl dX12_sign_105 ?_
                obtain ⟨rfl, rfl⟩ := Prod.mk.inj (Option.some.inj hF)
                exact ⟨rfl, rfl, hG⟩
            · rw [if_pos c351] at hF
              refine v_bipush (v := 15) dX12_sign_81 (by decide) ?_
              refine v_istore (i := 4) dX12_sign_83 (by decide) (nlT rfl) ?_
              simp only [List.set_cons_zero, List.set_cons_succ]
              refine v_iload_n (i := 2) dX12_sign_85 rfl rfl ?_
              refine v_bipush (v := 60) dX12_sign_86 (by decide) ?_
              refine v_icmp_ne 95 dX12_sign_88 (by decide) (fun c357 => ?_) (fun c357 => ?_)
              · rw [if_neg c357] at hF
                refine v_aload_n (i := 0) dX12_sign_95 rfl rfl ?_
                refine v_iload (i := 4) dX12_sign_96 rfl ?_
                refine v_iload_n (i := 1) dX12_sign_98 rfl rfl ?_
                refine v_iconst (v := 0) dX12_sign_99 (by decide) ?_
                refine v_lconst (v := 0) dX12_sign_100 (by decide) ?_
                obtain ⟨q358, q358_e, hF⟩ := Option.bind_eq_some_iff.mp hF
                refine c_X12_200 rfl sh_226 (by exact ltG hG (by decide)) (Nat.le_of_ble_eq_true rfl) dX12_sign_101 (s_X12_token _ q358_e hG) (fun r1 h1 hq => ?_)
                obtain ⟨rfl, hq, hG⟩ := hq
                replace hq := hq.symm
                subst hq
                simp only [Option.toList, List.nil_append]
                refine v_iconst (v := 1) dX12_sign_104 (by decide) ?_
                refine v_ireturn rfl dX12_sign_105 ?_
                obtain ⟨rfl, rfl⟩ := Prod.mk.inj (Option.some.inj hF)
                exact ⟨rfl, rfl, hG⟩
              · rw [if_pos c357] at hF
                refine v_bipush (v := 13) dX12_sign_91 (by decide) ?_
                refine v_istore (i := 4) dX12_sign_93 (by decide) (nlT rfl) ?_
                simp only [List.set_cons_zero, List.set_cons_succ]
                refine v_aload_n (i := 0) dX12_sign_95 rfl rfl ?_
                refine v_iload (i := 4) dX12_sign_96 rfl ?_
                refine v_iload_n (i := 1) dX12_sign_98 rfl rfl ?_
                refine v_iconst (v := 0) dX12_sign_99 (by decide) ?_
                refine v_lconst (v := 0) dX12_sign_100 (by decide) ?_
                obtain ⟨q360, q360_e, hF⟩ := Option.bind_eq_some_iff.mp hF
                refine c_X12_200 rfl sh_226 (by exact ltG hG (by decide)) (Nat.le_of_ble_eq_true rfl) dX12_sign_101 (s_X12_token _ q360_e hG) (fun r1 h1 hq => ?_)
                obtain ⟨rfl, hq, hG⟩ := hq
                replace hq := hq.symm
                subst hq
                simp only [Option.toList, List.nil_append]
                refine v_iconst (v := 1) dX12_sign_104 (by decide) ?_
                refine v_ireturn rfl dX12_sign_105 ?_
                obtain ⟨rfl, rfl⟩ := Prod.mk.inj (Option.some.inj hF)
                exact ⟨rfl, rfl, hG⟩
        · rw [if_pos c338] at hF
          refine v_bipush (v := 9) dX12_sign_61 (by decide) ?_
          refine v_istore (i := 4) dX12_sign_63 (by decide) (nlT rfl) ?_
          simp only [List.set_cons_zero, List.set_cons_succ]
          refine v_iload_n (i := 2) dX12_sign_65 rfl rfl ?_
          refine v_bipush (v := 42) dX12_sign_66 (by decide) ?_
          refine v_icmp_ne 75 dX12_sign_68 (by decide) (fun c362 => ?_) (fun c362 => ?_)
          · rw [if_neg c362] at hF
            refine v_iload_n (i := 2) dX12_sign_75 rfl rfl ?_
            refine v_bipush (v := 47) dX12_sign_76 (by decide) ?_
            refine v_icmp_ne 85 dX12_sign_78 (by decide) (fun c363 => ?_) (fun c363 => ?_)
            · rw [if_neg c363] at hF
              refine v_iload_n (i := 2) dX12_sign_85 rfl rfl ?_
              refine v_bipush (v := 60) dX12_sign_86 (by decide) ?_
              refine v_icmp_ne 95 dX12_sign_88 (by decide) (fun c364 => ?_) (fun c364 => ?_)
              · rw [if_neg c364] at hF
                refine v_aload_n (i := 0) dX12_sign_95 rfl rfl ?_
                refine v_iload (i := 4) dX12_sign_96 rfl ?_
                refine v_iload_n (i := 1) dX12_sign_98 rfl rfl ?_
                refine v_iconst (v := 0) dX12_sign_99 (by decide) ?_
                refine v_lconst (v := 0) dX12_sign_100 (by decide) ?_
                obtain ⟨q365, q365_e, hF⟩ := Option.bind_eq_some_iff.mp hF
                refine c_X12_200 rfl sh_226 (by exact ltG hG (by decide)) (Nat.le_of_ble_eq_true rfl) dX12_sign_101 (s_X12_token _ q365_e hG) (fun r1 h1 hq => ?_)
                obtain ⟨rfl, hq, hG⟩ := hq
                replace hq := hq.symm
                subst hq
                simp only [Option.toList, List.nil_append]
                refine v_iconst (v := 1) dX12_sign_104 (by decide) ?_
                refine v_ireturn rfl dX12_sign_105 ?_
                obtain ⟨rfl, rfl⟩ := Prod.mk.inj (Option.some.inj hF)
                exact ⟨rfl, rfl, hG⟩
              · rw [if_pos c364] at hF
                refine v_bipush (v := 13) dX12_sign_91 (by decide) ?_
                refine v_istore (i := 4) dX12_sign_93 (by decide) (nlT rfl) ?_
                simp only [List.set_cons_zero, List.set_cons_succ]
                refine v_aload_n (i := 0) dX12_sign_95 rfl rfl ?_
                refine v_iload (i := 4) dX12_sign_96 rfl ?_
                refine v_iload_n (i := 1) dX12_sign_98 rfl rfl ?_
                refine v_iconst (v := 0) dX12_sign_99 (by decide) ?_
                refine v_lconst (v := 0) dX12_sign_100 (by decide) ?_
                obtain ⟨q367, q367_e, hF⟩ := Option.bind_eq_some_iff.mp hF
                refine c_X12_200 rfl sh_226 (by exact ltG hG (by decide)) (Nat.le_of_ble_eq_true rfl) dX12_sign_101 (s_X12_token _ q367_e hG) (fun r1 h1 hq => ?_)
                obtain ⟨rfl, hq, hG⟩ := hq
                replace hq := hq.symm
                subst hq
                simp only [Option.toList, List.nil_append]
                refine v_iconst (v := 1) dX12_sign_104 (by decide) ?_
                refine v_ireturn rfl dX12_sign_105 ?_
                obtain ⟨rfl, rfl⟩ := Prod.mk.inj (Option.some.inj hF)
                exact ⟨rfl, rfl, hG⟩
            · rw [if_pos c363] at hF
              refine v_bipush (v := 15) dX12_sign_81 (by decide) ?_
              refine v_istore (i := 4) dX12_sign_83 (by decide) (nlT rfl) ?_
              simp only [List.set_cons_zero, List.set_cons_succ]
              refine v_iload_n (i := 2) dX12_sign_85 rfl rfl ?_
              refine v_bipush (v := 60) dX12_sign_86 (by decide) ?_
              refine v_icmp_ne 95 dX12_sign_88 (by decide) (fun c369 => ?_) (fun c369 => ?_)
              · rw [if_neg c369] at hF
                refine v_aload_n (i := 0) dX12_sign_95 rfl rfl ?_
                refine v_iload (i := 4) dX12_sign_96 rfl ?_
                refine v_iload_n (i := 1) dX12_sign_98 rfl rfl ?_
                refine v_iconst (v := 0) dX12_sign_99 (by decide) ?_
                refine v_lconst (v := 0) dX12_sign_100 (by decide) ?_
                obtain ⟨q370, q370_e, hF⟩ := Option.bind_eq_some_iff.mp hF
                refine c_X12_200 rfl sh_226 (by exact ltG hG (by decide)) (Nat.le_of_ble_eq_true rfl) dX12_sign_101 (s_X12_token _ q370_e hG) (fun r1 h1 hq => ?_)
                obtain ⟨rfl, hq, hG⟩ := hq
                replace hq := hq.symm
                subst hq
                simp only [Option.toList, List.nil_append]
                refine v_iconst (v := 1) dX12_sign_104 (by decide) ?_
                refine v_ireturn rfl dX12_sign_105 ?_
                obtain ⟨rfl, rfl⟩ := Prod.mk.inj (Option.some.inj hF)
                exact ⟨rfl, rfl, hG⟩
              · rw [if_pos c369] at hF
                refine v_bipush (v := 13) dX12_sign_91 (by decide) ?_
                refine v_istore (i := 4) dX12_sign_93 (by decide) (nlT rfl) ?_
                simp only [List.set_cons_zero, List.set_cons_succ]
                refine v_aload_n (i := 0) dX12_sign_95 rfl rfl ?_
                refine v_iload (i := 4) dX12_sign_96 rfl ?_
                refine v_iload_n (i := 1) dX12_sign_98 rfl rfl ?_
                refine v_iconst (v := 0) dX12_sign_99 (by decide) ?_
                refine v_lconst (v := 0) dX12_sign_100 (by decide) ?_
                obtain ⟨q372, q372_e, hF⟩ := Option.bind_eq_some_iff.mp hF
                refine c_X12_200 rfl sh_226 (by exact ltG hG (by decide)) (Nat.le_of_ble_eq_true rfl) dX12_sign_101 (s_X12_token _ q372_e hG) (fun r1 h1 hq => ?_)
                obtain ⟨rfl, hq, hG⟩ := hq
                replace hq := hq.symm
                subst hq
                simp only [Option.toList, List.nil_append]
                refine v_iconst (v := 1) dX12_sign_104 (by decide) ?_
                refine v_ireturn rfl dX12_sign_105 ?_
                obtain ⟨rfl, rfl⟩ := Prod.mk.inj (Option.some.inj hF)
                exact ⟨rfl, rfl, hG⟩
          · rw [if_pos c362] at hF
            refine v_bipush (v := 10) dX12_sign_71 (by decide) ?_
            refine v_istore (i := 4) dX12_sign_73 (by decide) (nlT rfl) ?_
            simp only [List.set_cons_zero, List.set_cons_succ]
            refine v_iload_n (i := 2) dX12_sign_75 rfl rfl ?_
            refine v_bipush (v := 47) dX12_sign_76 (by decide) ?_
            refine v_icmp_ne 85 dX12_sign_78 (by decide) (fun c374 => ?_) (fun c374 => ?_)
            · rw [if_neg c374] at hF
              refine v_iload_n (i := 2) dX12_sign_85 rfl rfl ?_
              refine v_bipush (v := 60) dX12_sign_86 (by decide) ?_
              refine v_icmp_ne 95 dX12_sign_88 (by decide) (fun c375 => ?_) (fun c375 => ?_)
              · rw [if_neg c375] at hF
                refine v_aload_n (i := 0) dX12_sign_95 rfl rfl ?_
                refine v_iload (i := 4) dX12_sign_96 rfl ?_
                refine v_iload_n (i := 1) dX12_sign_98 rfl rfl ?_
                refine v_iconst (v := 0) dX12_sign_99 (by decide) ?_
                refine v_lconst (v := 0) dX12_sign_100 (by decide) ?_
                obtain ⟨q376, q376_e, hF⟩ := Option.bind_eq_some_iff.mp hF
                refine c_X12_200 rfl sh_226 (by exact ltG hG (by decide)) (Nat.le_of_ble_eq_true rfl) dX12_sign_101 (s_X12_token _ q376_e hG) (fun r1 h1 hq => ?_)
                obtain ⟨rfl, hq, hG⟩ := hq
                replace hq := hq.symm
                subst hq
                simp only [Option.toList, List.nil_append]
                refine v_iconst (v := 1) dX12_sign_104 (by decide) ?_
                refine v_ireturn rfl dX12_sign_105 ?_
                obtain ⟨rfl, rfl⟩ := Prod.mk.inj (Option.some.inj hF)
                exact ⟨rfl, rfl, hG⟩
              · rw [if_pos c375] at hF
                refine v_bipush (v := 13) dX12_sign_91 (by decide) ?_
                refine v_istore (i := 4) dX12_sign_93 (by decide) (nlT rfl) ?_
                simp only [List.set_cons_zero, List.set_cons_succ]
                refine v_aload_n (i := 0) dX12_sign_95 rfl rfl ?_
                refine v_iload (i := 4) dX12_sign_96 rfl ?_
                refine v_iload_n (i := 1) dX12_sign_98 rfl rfl ?_
                refine v_iconst (v := 0) dX12_sign_99 (by decide) ?_
                refine v_lconst (v := 0) dX12_sign_100 (by decide) ?_
                obtain ⟨q378, q378_e, hF⟩ := Option.bind_eq_some_iff.mp hF
                refine c_X12_200 rfl sh_226 (by exact ltG hG (by decide)) (Nat.le_of_ble_eq_true rfl) dX12_sign_101 (s_X12_token _ q378_e hG) (fun r1 h1 hq => ?_)
                obtain ⟨rfl, hq, hG⟩ := hq
                replace hq := hq.symm
                subst hq
                simp only [Option.toList, List.nil_append]
                refine v_iconst (v := 1) dX12_sign_104 (by decide) ?_
                refine v_ireturn rfl dX12_sign_105 ?_
                obtain ⟨rfl, rfl⟩ := Prod.mk.inj (Option.some.inj hF)
                exact ⟨rfl, rfl, hG⟩
            · rw [if_pos c374] at hF
              refine v_bipush (v := 15) dX12_sign_81 (by decide) ?_
              refine v_istore (i := 4) dX12_sign_83 (by decide) (nlT rfl) ?_
              simp only [List.set_cons_zero, List.set_cons_succ]
              refine v_iload_n (i := 2) dX12_sign_85 rfl rfl ?_
              refine v_bipush (v := 60) dX12_sign_86 (by decide) ?_
              refine v_icmp_ne 95 dX12_sign_88 (by decide) (fun c380 => ?_) (fun c380 => ?_)
              · rw [if_neg c380] at hF
                refine v_aload_n (i := 0) dX12_sign_95 rfl rfl ?_
                refine v_iload (i := 4) dX12_sign_96 rfl ?_
                refine v_iload_n (i := 1) dX12_sign_98 rfl rfl ?_
                refine v_iconst (v := 0) dX12_sign_99 (by decide) ?_
                refine v_lconst (v := 0) dX12_sign_100 (by decide) ?_
                obtain ⟨q381, q381_e, hF⟩ := Option.bind_eq_some_iff.mp hF
                refine c_X12_200 rfl sh_226 (by exact ltG hG (by decide)) (Nat.le_of_ble_eq_true rfl) dX12_sign_101 (s_X12_token _ q381_e hG) (fun r1 h1 hq => ?_)
                obtain ⟨rfl, hq, hG⟩ := hq
                replace hq := hq.symm
                subst hq
                simp only [Option.toList, List.nil_append]
                refine v_iconst (v := 1) dX12_sign_104 (by decide) ?_
                refine v_ireturn rfl dX12_sign_105 ?_
                obtain ⟨rfl, rfl⟩ := Prod.mk.inj (Option.some.inj hF)
                exact ⟨rfl, rfl, hG⟩
              · rw [if_pos c380] at hF
                refine v_bipush (v := 13) dX12_sign_91 (by decide) ?_
                refine v_istore (i := 4) dX12_sign_93 (by decide) (nlT rfl) ?_
                simp only [List.set_cons_zero, List.set_cons_succ]
                refine v_aload_n (i := 0) dX12_sign_95 rfl rfl ?_
                refine v_iload (i := 4) dX12_sign_96 rfl ?_
                refine v_iload_n (i := 1) dX12_sign_98 rfl rfl ?_
                refine v_iconst (v := 0) dX12_sign_99 (by decide) ?_
                refine v_lconst (v := 0) dX12_sign_100 (by decide) ?_
                obtain ⟨q383, q383_e, hF⟩ := Option.bind_eq_some_iff.mp hF
                refine c_X12_200 rfl sh_226 (by exact ltG hG (by decide)) (Nat.le_of_ble_eq_true rfl) dX12_sign_101 (s_X12_token _ q383_e hG) (fun r1 h1 hq => ?_)
                obtain ⟨rfl, hq, hG⟩ := hq
                replace hq := hq.symm
                subst hq
                simp only [Option.toList, List.nil_append]
                refine v_iconst (v := 1) dX12_sign_104 (by decide) ?_
                refine v_ireturn rfl dX12_sign_105 ?_
                obtain ⟨rfl, rfl⟩ := Prod.mk.inj (Option.some.inj hF)
                exact ⟨rfl, rfl, hG⟩
  · rw [if_pos c1] at hF
    refine v_iconst (v := 4) dX12_sign_6 (by decide) ?_
    refine v_goto 43 dX12_sign_7 (by decide) ?_
    refine v_istore (i := 4) dX12_sign_43 (by decide) (nlT rfl) ?_
    simp only [List.set_cons_zero, List.set_cons_succ]
    refine v_iload_n (i := 2) dX12_sign_45 rfl rfl ?_
    refine v_bipush (v := 43) dX12_sign_46 (by decide) ?_
    refine v_icmp_ne 55 dX12_sign_48 (by decide) (fun c385 => ?_) (fun c385 => ?_)
    · rw [if_neg c385] at hF
      refine v_iload_n (i := 2) dX12_sign_55 rfl rfl ?_
      refine v_bipush (v := 45) dX12_sign_56 (by decide) ?_
      refine v_icmp_ne 65 dX12_sign_58 (by decide) (fun c386 => ?_) (fun c386 => ?_)
      · rw [if_neg c386] at hF
        refine v_iload_n (i := 2) dX12_sign_65 rfl rfl ?_
        refine v_bipush (v := 42) dX12_sign_66 (by decide) ?_
        refine v_icmp_ne 75 dX12_sign_68 (by decide) (fun c387 => ?_) (fun c387 => ?_)
        · rw [if_neg c387] at hF
          refine v_iload_n (i := 2) dX12_sign_75 rfl rfl ?_
          refine v_bipush (v := 47) dX12_sign_76 (by decide) ?_
          refine v_icmp_ne 85 dX12_sign_78 (by decide) (fun c388 => ?_) (fun c388 => ?_)
          · rw [if_neg c388] at hF
            refine v_iload_n (i := 2) dX12_sign_85 rfl rfl ?_
            refine v_bipush (v := 60) dX12_sign_86 (by decide) ?_
            refine v_icmp_ne 95 dX12_sign_88 (by decide) (fun c389 => ?_) (fun c389 => ?_)
            · rw [if_neg c389] at hF
              refine v_aload_n (i := 0) dX12_sign_95 rfl rfl ?_
              refine v_iload (i := 4) dX12_sign_96 rfl ?_
              refine v_iload_n (i := 1) dX12_sign_98 rfl rfl ?_
              refine v_iconst (v := 0) dX12_sign_99 (by decide) ?_
              refine v_lconst (v := 0) dX12_sign_100 (by decide) ?_
              obtain ⟨q390, q390_e, hF⟩ := Option.bind_eq_some_iff.mp hF
              refine c_X12_200 rfl sh_226 (by exact ltG hG (by decide)) (Nat.le_of_ble_eq_true rfl) dX12_sign_101 (s_X12_token _ q390_e hG) (fun r1 h1 hq => ?_)
              obtain ⟨rfl, hq, hG⟩ := hq
              replace hq := hq.symm
              subst hq
              simp only [Option.toList, List.nil_append]
              refine v_iconst (v := 1) dX12_sign_104 (by decide) ?_
              refine v_ireturn rfl dX12_sign_105 ?_
              obtain ⟨rfl, rfl⟩ := Prod.mk.inj (Option.some.inj hF)
              exact ⟨rfl, rfl, hG⟩
            · rw [if_pos c389] at hF
              refine v_bipush (v := 13) dX12_sign_91 (by decide) ?_
              refine v_istore (i := 4) dX12_sign_93 (by decide) (nlT rfl) ?_
              simp only [List.set_cons_zero, List.set_cons_succ]
              refine v_aload_n (i := 0) dX12_sign_95 rfl rfl ?_
              refine v_iload (i := 4) dX12_sign_96 rfl ?_
              refine v_iload_n (i := 1) dX12_sign_98 rfl rfl ?_
              refine v_iconst (v := 0) dX12_sign_99 (by decide) ?_
              refine v_lconst (v := 0) dX12_sign_100 (by decide) ?_
              obtain ⟨q392, q392_e, hF⟩ := Option.bind_eq_some_iff.mp hF
              refine c_X12_200 rfl sh_226 (by exact ltG hG (by decide)) (Nat.le_of_ble_eq_true rfl) dX12_sign_101 (s_X12_token _ q392_e hG) (fun r1 h1 hq => ?_)
              obtain ⟨rfl, hq, hG⟩ := hq
              replace hq := hq.symm
              subst hq
              simp only [Option.toList, List.nil_append]
              refine v_iconst (v := 1) dX12_sign_104 (by decide) ?_
              refine v_ireturn rfl dX12_sign_105 ?_
              obtain ⟨rfl, rfl⟩ := Prod.mk.inj (Option.some.inj hF)
              exact ⟨rfl, rfl, hG⟩
          · rw [if_pos c388] at hF
            refine v_bipush (v := 15) dX12_sign_81 (by decide) ?_
            refine v_istore (i := 4) dX12_sign_83 (by decide) (nlT rfl) ?_
            simp only [List.set_cons_zero, List.set_cons_succ]
            refine v_iload_n (i := 2) dX12_sign_85 rfl rfl ?_
            refine v_bipush (v := 60) dX12_sign_86 (by decide) ?_
            refine v_icmp_ne 95 dX12_sign_88 (by decide) (fun c394 => ?_) (fun c394 => ?_)
            · rw [if_neg c394] at hF
              refine v_aload_n (i := 0) dX12_sign_95 rfl rfl ?_
              refine v_iload (i := 4) dX12_sign_96 rfl ?_
              refine v_iload_n (i := 1) dX12_sign_98 rfl rfl ?_
              refine v_iconst (v := 0) dX12_sign_99 (by decide) ?_
              refine v_lconst (v := 0) dX12_sign_100 (by decide) ?_
              obtain ⟨q395, q395_e, hF⟩ := Option.bind_eq_some_iff.mp hF
              refine c_X12_200 rfl sh_226 (by exact ltG hG (by decide)) (Nat.le_of_ble_eq_true rfl) dX12_sign_101 (s_X12_token _ q395_e hG) (fun r1 h1 hq => ?_)
              obtain ⟨rfl, hq, hG⟩ := hq
              replace hq := hq.symm
              subst hq
              simp only [Option.toList, List.nil_append]
              refine v_iconst (v := 1) dX12_sign_104 (by decide) ?_
              refine v_ireturn rfl dX12_sign_105 ?_
              obtain ⟨rfl, rfl⟩ := Prod.mk.inj (Option.some.inj hF)
              exact ⟨rfl, rfl, hG⟩
            · rw [if_pos c394] at hF
              refine v_bipush (v := 13) dX12_sign_91 (by decide) ?_
              refine v_istore (i := 4) dX12_sign_93 (by decide) (nlT rfl) ?_
              simp only [List.set_cons_zero, List.set_cons_succ]
              refine v_aload_n (i := 0) dX12_sign_95 rfl rfl ?_
              refine v_iload (i := 4) dX12_sign_96 rfl ?_
              refine v_iload_n (i := 1) dX12_sign_98 rfl rfl ?_
              refine v_iconst (v := 0) dX12_sign_99 (by decide) ?_
              refine v_lconst (v := 0) dX12_sign_100 (by decide) ?_
              obtain ⟨q397, q397_e, hF⟩ := Option.bind_eq_some_iff.mp hF
              refine c_X12_200 rfl sh_226 (by exact ltG hG (by decide)) (Nat.le_of_ble_eq_true rfl) dX12_sign_101 (s_X12_token _ q397_e hG) (fun r1 h1 hq => ?_)
              obtain ⟨rfl, hq, hG⟩ := hq
              replace hq := hq.symm
              subst hq
              simp only [Option.toList, List.nil_append]
              refine v_iconst (v := 1) dX12_sign_104 (by decide) ?_
              refine v_ireturn rfl dX12_sign_105 ?_
              obtain ⟨rfl, rfl⟩ := Prod.mk.inj (Option.some.inj hF)
              exact ⟨rfl, rfl, hG⟩
        · rw [if_pos c387] at hF
          refine v_bipush (v := 10) dX12_sign_71 (by decide) ?_
          refine v_istore (i := 4) dX12_sign_73 (by decide) (nlT rfl) ?_
          simp only [List.set_cons_zero, List.set_cons_succ]
          refine v_iload_n (i := 2) dX12_sign_75 rfl rfl ?_
          refine v_bipush (v := 47) dX12_sign_76 (by decide) ?_
          refine v_icmp_ne 85 dX12_sign_78 (by decide) (fun c399 => ?_) (fun c399 => ?_)
          · rw [if_neg c399] at hF
            refine v_iload_n (i := 2) dX12_sign_85 rfl rfl ?_
            refine v_bipush (v := 60) dX12_sign_86 (by decide) ?_
            refine v_icmp_ne 95 dX12_sign_88 (by decide) (fun c400 => ?_) (fun c400 => ?_)
            · rw [if_neg c400] at hF
              refine v_aload_n (i := 0) dX12_sign_95 rfl rfl ?_
              refine v_iload (i := 4) dX12_sign_96 rfl ?_
              refine v_iload_n (i := 1) dX12_sign_98 rfl rfl ?_
              refine v_iconst (v := 0) dX12_sign_99 (by decide) ?_
              refine v_lconst (v := 0) dX12_sign_100 (by decide) ?_
              obtain ⟨q401, q401_e, hF⟩ := Option.bind_eq_some_iff.mp hF
              refine c_X12_200 rfl sh_226 (by exact ltG hG (by decide)) (Nat.le_of_ble_eq_true rfl) dX12_sign_101 (s_X12_token _ q401_e hG) (fun r1 h1 hq => ?_)
              obtain ⟨rfl, hq, hG⟩ := hq
              replace hq := hq.symm
              subst hq
              simp only [Option.toList, List.nil_append]
              refine v_iconst (v := 1) dX12_sign_104 (by decide) ?_
              refine v_ireturn rfl dX12_sign_105 ?_
              obtain ⟨rfl, rfl⟩ := Prod.mk.inj (Option.some.inj hF)
              exact ⟨rfl, rfl, hG⟩
            · rw [if_pos c400] at hF
              refine v_bipush (v := 13) dX12_sign_91 (by decide) ?_
              refine v_istore (i := 4) dX12_sign_93 (by decide) (nlT rfl) ?_
              simp only [List.set_cons_zero, List.set_cons_succ]
              refine v_aload_n (i := 0) dX12_sign_95 rfl rfl ?_
              refine v_iload (i := 4) dX12_sign_96 rfl ?_
              refine v_iload_n (i := 1) dX12_sign_98 rfl rfl ?_
              refine v_iconst (v := 0) dX12_sign_99 (by decide) ?_
              refine v_lconst (v := 0) dX12_sign_100 (by decide) ?_
              obtain ⟨q403, q403_e, hF⟩ := Option.bind_eq_some_iff.mp hF
              refine c_X12_200 rfl sh_226 (by exact ltG hG (by decide)) (Nat.le_of_ble_eq_true rfl) dX12_sign_101 (s_X12_token _ q403_e hG) (fun r1 h1 hq => ?_)
              obtain ⟨rfl, hq, hG⟩ := hq
              replace hq := hq.symm
              subst hq
              simp only [Option.toList, List.nil_append]
              refine v_iconst (v := 1) dX12_sign_104 (by decide) ?_
              refine v_ireturn rfl dX12_sign_105 ?_
              obtain ⟨rfl, rfl⟩ := Prod.mk.inj (Option.some.inj hF)
              exact ⟨rfl, rfl, hG⟩
          · rw [if_pos c399] at hF
            refine v_bipush (v := 15) dX12_sign_81 (by decide) ?_
            refine v_istore (i := 4) dX12_sign_83 (by decide) (nlT rfl) ?_
            simp only [List.set_cons_zero, List.set_cons_succ]
            refine v_iload_n (i := 2) dX12_sign_85 rfl rfl ?_
            refine v_bipush (v := 60) dX12_sign_86 (by decide) ?_
            refine v_icmp_ne 95 dX12_sign_88 (by decide) (fun c405 => ?_) (fun c405 => ?_)
            · rw [if_neg c405] at hF
              refine v_aload_n (i := 0) dX12_sign_95 rfl rfl ?_
              refine v_iload (i := 4) dX12_sign_96 rfl ?_
              refine v_iload_n (i := 1) dX12_sign_98 rfl rfl ?_
              refine v_iconst (v := 0) dX12_sign_99 (by decide) ?_
              refine v_lconst (v := 0) dX12_sign_100 (by decide) ?_
              obtain ⟨q406, q406_e, hF⟩ := Option.bind_eq_some_iff.mp hF
              refine c_X12_200 rfl sh_226 (by exact ltG hG (by decide)) (Nat.le_of_ble_eq_true rfl) dX12_sign_101 (s_X12_token _ q406_e hG) (fun r1 h1 hq => ?_)
              obtain ⟨rfl, hq, hG⟩ := hq
              replace hq := hq.symm
              subst hq
              simp only [Option.toList, List.nil_append]
              refine v_iconst (v := 1) dX12_sign_104 (by decide) ?_
              refine v_ireturn rfl dX12_sign_105 ?_
              obtain ⟨rfl, rfl⟩ := Prod.mk.inj (Option.some.inj hF)
              exact ⟨rfl, rfl, hG⟩
            · rw [if_pos c405] at hF
              refine v_bipush (v := 13) dX12_sign_91 (by decide) ?_
              refine v_istore (i := 4) dX12_sign_93 (by decide) (nlT rfl) ?_
              simp only [List.set_cons_zero, List.set_cons_succ]
              refine v_aload_n (i := 0) dX12_sign_95 rfl rfl ?_
              refine v_iload (i := 4) dX12_sign_96 rfl ?_
              refine v_iload_n (i := 1) dX12_sign_98 rfl rfl ?_
              refine v_iconst (v := 0) dX12_sign_99 (by decide) ?_
              refine v_lconst (v := 0) dX12_sign_100 (by decide) ?_
              obtain ⟨q408, q408_e, hF⟩ := Option.bind_eq_some_iff.mp hF
              refine c_X12_200 rfl sh_226 (by exact ltG hG (by decide)) (Nat.le_of_ble_eq_true rfl) dX12_sign_101 (s_X12_token _ q408_e hG) (fun r1 h1 hq => ?_)
              obtain ⟨rfl, hq, hG⟩ := hq
              replace hq := hq.symm
              subst hq
              simp only [Option.toList, List.nil_append]
              refine v_iconst (v := 1) dX12_sign_104 (by decide) ?_
              refine v_ireturn rfl dX12_sign_105 ?_
              obtain ⟨rfl, rfl⟩ := Prod.mk.inj (Option.some.inj hF)
              exact ⟨rfl, rfl, hG⟩
      · rw [if_pos c386] at hF
        refine v_bipush (v := 9) dX12_sign_61 (by decide) ?_
        refine v_istore (i := 4) dX12_sign_63 (by decide) (nlT rfl) ?_
        simp only [List.set_cons_zero, List.set_cons_succ]
        refine v_iload_n (i := 2) dX12_sign_65 rfl rfl ?_
        refine v_bipush (v := 42) dX12_sign_66 (by decide) ?_
        refine v_icmp_ne 75 dX12_sign_68 (by decide) (fun c410 => ?_) (fun c410 => ?_)
        · rw [if_neg c410] at hF
          refine v_iload_n (i := 2) dX12_sign_75 rfl rfl ?_
          refine v_bipush (v := 47) dX12_sign_76 (by decide) ?_
          refine v_icmp_ne 85 dX12_sign_78 (by decide) (fun c411 => ?_) (fun c411 => ?_)
          · rw [if_neg c411] at hF
            refine v_iload_n (i := 2) dX12_sign_85 rfl rfl ?_
            refine v_bipush (v := 60) dX12_sign_86 (by decide) ?_
            refine v_icmp_ne 95 dX12_sign_88 (by decide) (fun c412 => ?_) (fun c412 => ?_)
            · rw [if_neg c412] at hF
              refine v_aload_n (i := 0) dX12_sign_95 rfl rfl ?_
              refine v_iload (i := 4) dX12_sign_96 rfl ?_
              refine v_iload_n (i := 1) dX12_sign_98 rfl rfl ?_
              refine v_iconst (v := 0) dX12_sign_99 (by decide) ?_
              refine v_lconst (v := 0) dX12_sign_100 (by decide) ?_
              obtain ⟨q413, q413_e, hF⟩ := Option.bind_eq_some_iff.mp hF
              refine c_X12_200 rfl sh_226 (by exact ltG hG (by decide)) (Nat.le_of_ble_eq_true rfl) dX12_sign_101 (s_X12_token _ q413_e hG) (fun r1 h1 hq => ?_)
              obtain ⟨rfl, hq, hG⟩ := hq
              replace hq := hq.symm
              subst hq
              simp only [Option.toList, List.nil_append]
              refine v_iconst (v := 1) dX12_sign_104 (by decide) ?_
              refine v_ireturn rfl dX12_sign_105 ?_
              obtain ⟨rfl, rfl⟩ := Prod.mk.inj (Option.some.inj hF)
              exact ⟨rfl, rfl, hG⟩
            · rw [if_pos c412] at hF
              refine v_bipush (v := 13) dX12_sign_91 (by decide) ?_
              refine v_istore (i := 4) dX12_sign_93 (by decide) (nlT rfl) ?_
              simp only [List.set_cons_zero, List.set_cons_succ]
              refine v_aload_n (i := 0) dX12_sign_95 rfl rfl ?_
              refine v_iload (i := 4) dX12_sign_96 rfl ?_
              refine v_iload_n (i := 1) dX12_sign_98 rfl rfl ?_
              refine v_iconst (v := 0) dX12_sign_99 (by decide) ?_
              refine v_lconst (v := 0) dX12_sign_100 (by decide) ?_
              obtain ⟨q415, q415_e, hF⟩ := Option.bind_eq_some_iff.mp hF
              refine c_X12_200 rfl sh_226 (by exact ltG hG (by decide)) (Nat.le_of_ble_eq_true rfl) dX12_sign_101 (s_X12_token _ q415_e hG) (fun r1 h1 hq => ?_)
              obtain ⟨rfl, hq, hG⟩ := hq
              replace hq := hq.symm
              subst hq
              simp only [Option.toList, List.nil_append]
              refine v_iconst (v := 1) dX12_sign_104 (by decide) ?_
              refine v_ireturn rfl dX12_sign_105 ?_
              obtain ⟨rfl, rfl⟩ := Prod.mk.inj (Option.some.inj hF)
              exact ⟨rfl, rfl, hG⟩
          · rw [if_pos c411] at hF
            refine v_bipush (v := 15) dX12_sign_81 (by decide) ?_
            refine v_istore (i := 4) dX12_sign_83 (by decide) (nlT rfl) ?_
            simp only [List.set_cons_zero, List.set_cons_succ]
            refine v_iload_n (i := 2) dX12_sign_85 rfl rfl ?_
            refine v_bipush (v := 60) dX12_sign_86 (by decide) ?_
            refine v_icmp_ne 95 dX12_sign_88 (by decide) (fun c417 => ?_) (fun c417 => ?_)
            · rw [if_neg c417] at hF
              refine v_aload_n (i := 0) dX12_sign_95 rfl rfl ?_
              refine v_iload (i := 4) dX12_sign_96 rfl ?_
              refine v_iload_n (i := 1) dX12_sign_98 rfl rfl ?_
              refine v_iconst (v := 0) dX12_sign_99 (by decide) ?_
              refine v_lconst (v := 0) dX12_sign_100 (by decide) ?_
              obtain ⟨q418, q418_e, hF⟩ := Option.bind_eq_some_iff.mp hF
              refine c_X12_200 rfl sh_226 (by exact ltG hG (by decide)) (Nat.le_of_ble_eq_true rfl) dX12_sign_101 (s_X12_token _ q418_e hG) (fun r1 h1 hq => ?_)
              obtain ⟨rfl, hq, hG⟩ := hq
              replace hq := hq.symm
              subst hq
              simp only [Option.toList, List.nil_append]
              refine v_iconst (v := 1) dX12_sign_104 (by decide) ?_
              refine v_ireturn rfl dX12_sign_105 ?_
              obtain ⟨rfl, rfl⟩ := Prod.mk.inj (Option.some.inj hF)
              exact ⟨rfl, rfl, hG⟩
            · rw [if_pos c417] at hF
              refine v_bipush (v := 13) dX12_sign_91 (by decide) ?_
              refine v_istore (i := 4) dX12_sign_93 (by decide) (nlT rfl) ?_
              simp only [List.set_cons_zero, List.set_cons_succ]
              refine v_aload_n (i := 0) dX12_sign_95 rfl rfl ?_
              refine v_iload (i := 4) dX12_sign_96 rfl ?_
              refine v_iload_n (i := 1) dX12_sign_98 rfl rfl ?_
              refine v_iconst (v := 0) dX12_sign_99 (by decide) ?_
              refine v_lconst (v := 0) dX12_sign_100 (by decide) ?_
              obtain ⟨q420, q420_e, hF⟩ := Option.bind_eq_some_iff.mp hF
              refine c_X12_200 rfl sh_226 (by exact ltG hG (by decide)) (Nat.le_of_ble_eq_true rfl) dX12_sign_101 (s_X12_token _ q420_e hG) (fun r1 h1 hq => ?_)
              obtain ⟨rfl, hq, hG⟩ := hq
              replace hq := hq.symm
              subst hq
              simp only [Option.toList, List.nil_append]
              refine v_iconst (v := 1) dX12_sign_104 (by decide) ?_
              refine v_ireturn rfl dX12_sign_105 ?_
              obtain ⟨rfl, rfl⟩ := Prod.mk.inj (Option.some.inj hF)
              exact ⟨rfl, rfl, hG⟩
        · rw [if_pos c410] at hF
          refine v_bipush (v := 10) dX12_sign_71 (by decide) ?_
          refine v_istore (i := 4) dX12_sign_73 (by decide) (nlT rfl) ?_
          simp only [List.set_cons_zero, List.set_cons_succ]
          refine v_iload_n (i := 2) dX12_sign_75 rfl rfl ?_
          refine v_bipush (v := 47) dX12_sign_76 (by decide) ?_
          refine v_icmp_ne 85 dX12_sign_78 (by decide) (fun c422 => ?_) (fun c422 => ?_)
          · rw [if_neg c422] at hF
            refine v_iload_n (i := 2) dX12_sign_85 rfl rfl ?_
            refine v_bipush (v := 60) dX12_sign_86 (by decide) ?_
            refine v_icmp_ne 95 dX12_sign_88 (by decide) (fun c423 => ?_) (fun c423 => ?_)
            · rw [if_neg c423] at hF
              refine v_aload_n (i := 0) dX12_sign_95 rfl rfl ?_
              refine v_iload (i := 4) dX12_sign_96 rfl ?_
              refine v_iload_n (i := 1) dX12_sign_98 rfl rfl ?_
              refine v_iconst (v := 0) dX12_sign_99 (by decide) ?_
              refine v_lconst (v := 0) dX12_sign_100 (by decide) ?_
              obtain ⟨q424, q424_e, hF⟩ := Option.bind_eq_some_iff.mp hF
              refine c_X12_200 rfl sh_226 (by exact ltG hG (by decide)) (Nat.le_of_ble_eq_true rfl) dX12_sign_101 (s_X12_token _ q424_e hG) (fun r1 h1 hq => ?_)
              obtain ⟨rfl, hq, hG⟩ := hq
              replace hq := hq.symm
              subst hq
              simp only [Option.toList, List.nil_append]
              refine v_iconst (v := 1) dX12_sign_104 (by decide) ?_
              refine v_ireturn rfl dX12_sign_105 ?_
              obtain ⟨rfl, rfl⟩ := Prod.mk.inj (Option.some.inj hF)
              exact ⟨rfl, rfl, hG⟩
            · rw [if_pos c423] at hF
              refine v_bipush (v := 13) dX12_sign_91 (by decide) ?_
              refine v_istore (i := 4) dX12_sign_93 (by decide) (nlT rfl) ?_
              simp only [List.set_cons_zero, List.set_cons_succ]
              refine v_aload_n (i := 0) dX12_sign_95 rfl rfl ?_
              refine v_iload (i := 4) dX12_sign_96 rfl ?_
              refine v_iload_n (i := 1) dX12_sign_98 rfl rfl ?_
              refine v_iconst (v := 0) dX12_sign_99 (by decide) ?_
              refine v_lconst (v := 0) dX12_sign_100 (by decide) ?_
              obtain ⟨q426, q426_e, hF⟩ := Option.bind_eq_some_iff.mp hF
              refine c_X12_200 rfl sh_226 (by exact ltG hG (by decide)) (Nat.le_of_ble_eq_true rfl) dX12_sign_101 (s_X12_token _ q426_e hG) (fun r1 h1 hq => ?_)
              obtain ⟨rfl, hq, hG⟩ := hq
              replace hq := hq.symm
              subst hq
              simp only [Option.toList, List.nil_append]
              refine v_iconst (v := 1) dX12_sign_104 (by decide) ?_
              refine v_ireturn rfl dX12_sign_105 ?_
              obtain ⟨rfl, rfl⟩ := Prod.mk.inj (Option.some.inj hF)
              exact ⟨rfl, rfl, hG⟩
          · rw [if_pos c422] at hF
            refine v_bipush (v := 15) dX12_sign_81 (by decide) ?_
            refine v_istore (i := 4) dX12_sign_83 (by decide) (nlT rfl) ?_
            simp only [List.set_cons_zero, List.set_cons_succ]
            refine v_iload_n (i := 2) dX12_sign_85 rfl rfl ?_
            refine v_bipush (v := 60) dX12_sign_86 (by decide) ?_
            refine v_icmp_ne 95 dX12_sign_88 (by decide) (fun c428 => ?_) (fun c428 => ?_)
            · rw [if_neg c428] at hF
              refine v_aload_n (i := 0) dX12_sign_95 rfl rfl ?_
              refine v_iload (i := 4) dX12_sign_96 rfl ?_
              refine v_iload_n (i := 1) dX12_sign_98 rfl rfl ?_
              refine v_iconst (v := 0) dX12_sign_99 (by decide) ?_
              refine v_lconst (v := 0) dX12_sign_100 (by decide) ?_
              obtain ⟨q429, q429_e, hF⟩ := Option.bind_eq_some_iff.mp hF
              refine c_X12_200 rfl sh_226 (by exact ltG hG (by decide)) (Nat.le_of_ble_eq_true rfl) dX12_sign_101 (s_X12_token _ q429_e hG) (fun r1 h1 hq => ?_)
              obtain ⟨rfl, hq, hG⟩ := hq
              replace hq := hq.symm
              subst hq
              simp only [Option.toList, List.nil_append]
              refine v_iconst (v := 1) dX12_sign_104 (by decide) ?_
              refine v_ireturn rfl dX12_sign_105 ?_
              obtain ⟨rfl, rfl⟩ := Prod.mk.inj (Option.some.inj hF)
              exact ⟨rfl, rfl, hG⟩
            · rw [if_pos c428] at hF
              refine v_bipush (v := 13) dX12_sign_91 (by decide) ?_
              refine v_istore (i := 4) dX12_sign_93 (by decide) (nlT rfl) ?_
              simp only [List.set_cons_zero, List.set_cons_succ]
              refine v_aload_n (i := 0) dX12_sign_95 rfl rfl ?_
              refine v_iload (i := 4) dX12_sign_96 rfl ?_
              refine v_iload_n (i := 1) dX12_sign_98 rfl rfl ?_
              refine v_iconst (v := 0) dX12_sign_99 (by decide) ?_
              refine v_lconst (v := 0) dX12_sign_100 (by decide) ?_
              obtain ⟨q431, q431_e, hF⟩ := Option.bind_eq_some_iff.mp hF
              refine c_X12_200 rfl sh_226 (by exact ltG hG (by decide)) (Nat.le_of_ble_eq_true rfl) dX12_sign_101 (s_X12_token _ q431_e hG) (fun r1 h1 hq => ?_)
              obtain ⟨rfl, hq, hG⟩ := hq
              replace hq := hq.symm
              subst hq
              simp only [Option.toList, List.nil_append]
              refine v_iconst (v := 1) dX12_sign_104 (by decide) ?_
              refine v_ireturn rfl dX12_sign_105 ?_
              obtain ⟨rfl, rfl⟩ := Prod.mk.inj (Option.some.inj hF)
              exact ⟨rfl, rfl, hG⟩
    · rw [if_pos c385] at hF
      refine v_bipush (v := 8) dX12_sign_51 (by decide) ?_
      refine v_istore (i := 4) dX12_sign_53 (by decide) (nlT rfl) ?_
      simp only [List.set_cons_zero, List.set_cons_succ]
      refine v_iload_n (i := 2) dX12_sign_55 rfl rfl ?_
      refine v_bipush (v := 45) dX12_sign_56 (by decide) ?_
      refine v_icmp_ne 65 dX12_sign_58 (by decide) (fun c433 => ?_) (fun c433 => ?_)
      · rw [if_neg c433] at hF
        refine v_iload_n (i := 2) dX12_sign_65 rfl rfl ?_
        refine v_bipush (v := 42) dX12_sign_66 (by decide) ?_
        refine v_icmp_ne 75 dX12_sign_68 (by decide) (fun c434 => ?_) (fun c434 => ?_)
        · rw [if_neg c434] at hF
          refine v_iload_n (i := 2) dX12_sign_75 rfl rfl ?_
          refine v_bipush (v := 47) dX12_sign_76 (by decide) ?_
          refine v_icmp_ne 85 dX12_sign_78 (by decide) (fun c435 => ?_) (fun c435 => ?_)
          · rw [if_neg c435] at hF
            refine v_iload_n (i := 2) dX12_sign_85 rfl rfl ?_
            refine v_bipush (v := 60) dX12_sign_86 (by decide) ?_
            refine v_icmp_ne 95 dX12_sign_88 (by decide) (fun c436 => ?_) (fun c436 => ?_)
            · rw [if_neg c436] at hF
              refine v_aload_n (i := 0) dX12_sign_95 rfl rfl ?_
              refine v_iload (i := 4) dX12_sign_96 rfl ?_
              refine v_iload_n (i := 1) dX12_sign_98 rfl rfl ?_
              refine v_iconst (v := 0) dX12_sign_99 (by decide) ?_
              refine v_lconst (v := 0) dX12_sign_100 (by decide) ?_
              obtain ⟨q437, q437_e, hF⟩ := Option.bind_eq_some_iff.mp hF
              refine c_X12_200 rfl sh_226 (by exact ltG hG (by decide)) (Nat.le_of_ble_eq_true rfl) dX12_sign_101 (s_X12_token _ q437_e hG) (fun r1 h1 hq => ?_)
              obtain ⟨rfl, hq, hG⟩ := hq
              replace hq := hq.symm
              subst hq
              simp only [Option.toList, List.nil_append]
              refine v_iconst (v := 1) dX12_sign_104 (by decide) ?_
              refine v_ireturn rfl dX12_sign_105 ?_
              obtain ⟨rfl, rfl⟩ := Prod.mk.inj (Option.some.inj hF)
              exact ⟨rfl, rfl, hG⟩
            · rw [if_pos c436] at hF
              refine v_bipush (v := 13) dX12_sign_91 (by decide) ?_
              refine v_istore (i := 4) dX12_sign_93 (by decide) (nlT rfl) ?_
              simp only [List.set_cons_zero, List.set_cons_succ]
              refine v_aload_n (i := 0) dX12_sign_95 rfl rfl ?_
              refine v_iload (i := 4) dX12_sign_96 rfl ?_
              refine v_iload_n (i := 1) dX12_sign_98 rfl rfl ?_
              refine v_iconst (v := 0) dX12_sign_99 (by decide) ?_
              refine v_lconst (v := 0) dX12_sign_100 (by decide) ?_
              obtain ⟨q439, q439_e, hF⟩ := Option.bind_eq_some_iff.mp hF
              refine c_X12_200 rfl sh_226 (by exact ltG hG (by decide)) (Nat.le_of_ble_eq_true rfl) dX12_sign_101 (s_X12_token _ q439_e hG) (fun r1 h1 hq => ?_)
              obtain ⟨rfl, hq, hG⟩ := hq
              replace hq := hq.symm
              subst hq
              simp only [Option.toList, List.nil_append]
              refine v_iconst (v := 1) dX12_sign_104 (by decide) ?_
              refine v_ireturn rfl dX12_sign_105 ?_
              obtain ⟨rfl, rfl⟩ := Prod.mk.inj (Option.some.inj hF)
              exact ⟨rfl, rfl, hG⟩
          · rw [if_pos c435] at hF
            refine v_bipush (v := 15) dX12_sign_81 (by decide) ?_
            refine v_istore (i := 4) dX12_sign_83 (by decide) (nlT rfl) ?_
            simp only [List.set_cons_zero, List.set_cons_succ]
            refine v_iload_n (i := 2) dX12_sign_85 rfl rfl ?_
            refine v_bipush (v := 60) dX12_sign_86 (by decide) ?_
            refine v_icmp_ne 95 dX12_sign_88 (by decide) (fun c441 => ?_) (fun c441 => ?_)
            · rw [if_neg c441] at hF
              refine v_aload_n (i := 0) dX12_sign_95 rfl rfl ?_
              refine v_iload (i := 4) dX12_sign_96 rfl ?_
              refine v_iload_n (i := 1) dX12_sign_98 rfl rfl ?_
              refine v_iconst (v := 0) dX12_sign_99 (by decide) ?_
              refine v_lconst (v := 0) dX12_sign_100 (by decide) ?_
              obtain ⟨q442, q442_e, hF⟩ := Option.bind_eq_some_iff.mp hF
              refine c_X12_200 rfl sh_226 (by exact ltG hG (by decide)) (Nat.le_of_ble_eq_true rfl) dX12_sign_101 (s_X12_token _ q442_e hG) (fun r1 h1 hq => ?_)
              obtain ⟨rfl, hq, hG⟩ := hq
              replace hq := hq.symm
              subst hq
              simp only [Option.toList, List.nil_append]
              refine v_iconst (v := 1) dX12_sign_104 (by decide) ?_
              refine v_ireturn rfl dX12_sign_105 ?_
              obtain ⟨rfl, rfl⟩ := Prod.mk.inj (Option.some.inj hF)
              exact ⟨rfl, rfl, hG⟩
            · rw [if_pos c441] at hF
              refine v_bipush (v := 13) dX12_sign_91 (by decide) ?_
              refine v_istore (i := 4) dX12_sign_93 (by decide) (nlT rfl) ?_
              simp only [List.set_cons_zero, List.set_cons_succ]
              refine v_aload_n (i := 0) dX12_sign_95 rfl rfl ?_
              refine v_iload (i := 4) dX12_sign_96 rfl ?_
              refine v_iload_n (i := 1) dX12_sign_98 rfl rfl ?_
              refine v_iconst (v := 0) dX12_sign_99 (by decide) ?_
              refine v_lconst (v := 0) dX12_sign_100 (by decide) ?_
              obtain ⟨q444, q444_e, hF⟩ := Option.bind_eq_some_iff.mp hF
              refine c_X12_200 rfl sh_226 (by exact ltG hG (by decide)) (Nat.le_of_ble_eq_true rfl) dX12_sign_101 (s_X12_token _ q444_e hG) (fun r1 h1 hq => ?_)
              obtain ⟨rfl, hq, hG⟩ := hq
              replace hq := hq.symm
              subst hq
              simp only [Option.toList, List.nil_append]
              refine v_iconst (v := 1) dX12_sign_104 (by decide) ?_
              refine v_ireturn rfl dX12_sign_105 ?_
              obtain ⟨rfl, rfl⟩ := Prod.mk.inj (Option.some.inj hF)
              exact ⟨rfl, rfl, hG⟩
        · rw [if_pos c434] at hF
          refine v_bipush (v := 10) dX12_sign_71 (by decide) ?_
          refine v_istore (i := 4) dX12_sign_73 (by decide) (nlT rfl) ?_
          simp only [List.set_cons_zero, List.set_cons_succ]
          refine v_iload_n (i := 2) dX12_sign_75 rfl rfl ?_
          refine v_bipush (v := 47) dX12_sign_76 (by decide) ?_
          refine v_icmp_ne 85 dX12_sign_78 (by decide) (fun c446 => ?_) (fun c446 => ?_)
          · rw [if_neg c446] at hF
            refine v_iload_n (i := 2) dX12_sign_85 rfl rfl ?_
            refine v_bipush (v := 60) dX12_sign_86 (by decide) ?_
            refine v_icmp_ne 95 dX12_sign_88 (by decide) (fun c447 => ?_) (fun c447 => ?_)
            · rw [if_neg c447] at hF
              refine v_aload_n (i := 0) dX12_sign_95 rfl rfl ?_
              refine v_iload (i := 4) dX12_sign_96 rfl ?_
              refine v_iload_n (i := 1) dX12_sign_98 rfl rfl ?_
              refine v_iconst (v := 0) dX12_sign_99 (by decide) ?_
              refine v_lconst (v := 0) dX12_sign_100 (by decide) ?_
              obtain ⟨q448, q448_e, hF⟩ := Option.bind_eq_some_iff.mp hF
              refine c_X12_200 rfl sh_226 (by exact ltG hG (by decide)) (Nat.le_of_ble_eq_true rfl) dX12_sign_101 (s_X12_token _ q448_e hG) (fun r1 h1 hq => ?_)
              obtain ⟨rfl, hq, hG⟩ := hq
              replace hq := hq.symm
              subst hq
              simp only [Option.toList, List.nil_append]
              refine v_iconst (v := 1) dX12_sign_104 (by decide) ?_
              refine v_ireturn rfl dX12_sign_105 ?_
              obtain ⟨rfl, rfl⟩ := Prod.mk.inj (Option.some.inj hF)
              exact ⟨rfl, rfl, hG⟩
            · rw [if_pos c447] at hF
              refine v_bipush (v := 13) dX12_sign_91 (by decide) ?_
              refine v_istore (i := 4) dX12_sign_93 (by decide) (nlT rfl) ?_
              simp only [List.set_cons_zero, List.set_cons_succ]
              refine v_aload_n (i := 0) dX12_sign_95 rfl rfl ?_
              refine v_iload (i := 4) dX12_sign_96 rfl ?_
              refine v_iload_n (i := 1) dX12_sign_98 rfl rfl ?_
              refine v_iconst (v := 0) dX12_sign_99 (by decide) ?_
              refine v_lconst (v := 0) dX12_sign_100 (by decide) ?_
              obtain ⟨q450, q450_e, hF⟩ := Option.bind_eq_some_iff.mp hF
              refine c_X12_200 rfl sh_226 (by exact ltG hG (by decide)) (Nat.le_of_ble_eq_true rfl) dX12_sign_101 (s_X12_token _ q450_e hG) (fun r1 h1 hq => ?_)
              obtain ⟨rfl, hq, hG⟩ := hq
              replace hq := hq.symm
              subst hq
              simp only [Option.toList, List.nil_append]
              refine v_iconst (v := 1) dX12_sign_104 (by decide) ?_
              refine v_ireturn rfl dX12_sign_105 ?_
              obtain ⟨rfl, rfl⟩ := Prod.mk.inj (Option.some.inj hF)
              exact ⟨rfl, rfl, hG⟩
          · rw [if_pos c446] at hF
            refine v_bipush (v := 15) dX12_sign_81 (by decide) ?_
            refine v_istore (i := 4) dX12_sign_83 (by decide) (nlT rfl) ?_
            simp only [List.set_cons_zero, List.set_cons_succ]
            refine v_iload_n (i := 2) dX12_sign_85 rfl rfl ?_
            refine v_bipush (v := 60) dX12_sign_86 (by decide) ?_
            refine v_icmp_ne 95 dX12_sign_88 (by decide) (fun c452 => ?_) (fun c452 => ?_)
            · rw [if_neg c452] at hF
              refine v_aload_n (i := 0) dX12_sign_95 rfl rfl ?_
              refine v_iload (i := 4) dX12_sign_96 rfl ?_
              refine v_iload_n (i := 1) dX12_sign_98 rfl rfl ?_
              refine v_iconst (v := 0) dX12_sign_99 (by decide) ?_
              refine v_lconst (v := 0) dX12_sign_100 (by decide) ?_
              obtain ⟨q453, q453_e, hF⟩ := Option.bind_eq_some_iff.mp hF
              refine c_X12_200 rfl sh_226 (by exact ltG hG (by decide)) (Nat.le_of_ble_eq_true rfl) dX12_sign_101 (s_X12_token _ q453_e hG) (fun r1 h1 hq => ?_)
              obtain ⟨rfl, hq, hG⟩ := hq
              replace hq := hq.symm
              subst hq
              simp only [Option.toList, List.nil_append]
              refine v_iconst (v := 1) dX12_sign_104 (by decide) ?_
              refine v_ireturn rfl dX12_sign_105 ?_
              obtain ⟨rfl, rfl⟩ := Prod.mk.inj (Option.some.inj hF)
              exact ⟨rfl, rfl, hG⟩
            · rw [if_pos c452] at hF
              refine v_bipush (v := 13) dX12_sign_91 (by decide) ?_
              refine v_istore (i := 4) dX12_sign_93 (by decide) (nlT rfl) ?_
              simp only [List.set_cons_zero, List.set_cons_succ]
              refine v_aload_n (i := 0) dX12_sign_95 rfl rfl ?_
              refine v_iload (i := 4) dX12_sign_96 rfl ?_
              refine v_iload_n (i := 1) dX12_sign_98 rfl rfl ?_
              refine v_iconst (v := 0) dX12_sign_99 (by decide) ?_
              refine v_lconst (v := 0) dX12_sign_100 (by decide) ?_
              obtain ⟨q455, q455_e, hF⟩ := Option.bind_eq_some_iff.mp hF
              refine c_X12_200 rfl sh_226 (by exact ltG hG (by decide)) (Nat.le_of_ble_eq_true rfl) dX12_sign_101 (s_X12_token _ q455_e hG) (fun r1 h1 hq => ?_)
              obtain ⟨rfl, hq, hG⟩ := hq
              replace hq := hq.symm
              subst hq
              simp only [Option.toList, List.nil_append]
              refine v_iconst (v := 1) dX12_sign_104 (by decide) ?_
              refine v_ireturn rfl dX12_sign_105 ?_
              obtain ⟨rfl, rfl⟩ := Prod.mk.inj (Option.some.inj hF)
              exact ⟨rfl, rfl, hG⟩
      · rw [if_pos c433] at hF
        refine v_bipush (v := 9) dX12_sign_61 (by decide) ?_
        refine v_istore (i := 4) dX12_sign_63 (by decide) (nlT rfl) ?_
        simp only [List.set_cons_zero, List.set_cons_succ]
        refine v_iload_n (i := 2) dX12_sign_65 rfl rfl ?_
        refine v_bipush (v := 42) dX12_sign_66 (by decide) ?_
        refine v_icmp_ne 75 dX12_sign_68 (by decide) (fun c457 => ?_) (fun c457 => ?_)
        · rw [if_neg c457] at hF
          refine v_iload_n (i := 2) dX12_sign_75 rfl rfl ?_
          refine v_bipush (v := 47) dX12_sign_76 (by decide) ?_
          refine v_icmp_ne 85 dX12_sign_78 (by decide) (fun c458 => ?_) (fun c458 => ?_)
          · rw [if_neg c458] at hF
            refine v_iload_n (i := 2) dX12_sign_85 rfl rfl ?_
            refine v_bipush (v := 60) dX12_sign_86 (by decide) ?_
            refine v_icmp_ne 95 dX12_sign_88 (by decide) (fun c459 => ?_) (fun c459 => ?_)
            · rw [if_neg c459] at hF
              refine v_aload_n (i := 0) dX12_sign_95 rfl rfl ?_
              refine v_iload (i := 4) dX12_sign_96 rfl ?_
              refine v_iload_n (i := 1) dX12_sign_98 rfl rfl ?_
              refine v_iconst (v := 0) dX12_sign_99 (by decide) ?_
              refine v_lconst (v := 0) dX12_sign_100 (by decide) ?_
              obtain ⟨q460, q460_e, hF⟩ := Option.bind_eq_some_iff.mp hF
              refine c_X12_200 rfl sh_226 (by exact ltG hG (by decide)) (Nat.le_of_ble_eq_true rfl) dX12_sign_101 (s_X12_token _ q460_e hG) (fun r1 h1 hq => ?_)
              obtain ⟨rfl, hq, hG⟩ := hq
              replace hq := hq.symm
              subst hq
              simp only [Option.toList, List.nil_append]
              refine v_iconst (v := 1) dX12_sign_104 (by decide) ?_
              refine v_ireturn rfl dX12_sign_105 ?_
              obtain ⟨rfl, rfl⟩ := Prod.mk.inj (Option.some.inj hF)
              exact ⟨rfl, rfl, hG⟩
            · rw [if_pos c459] at hF
              refine v_bipush (v := 13) dX12_sign_91 (by decide) ?_
              refine v_istore (i := 4) dX12_sign_93 (by decide) (nlT rfl) ?_
              simp only [List.set_cons_zero, List.set_cons_succ]
              refine v_aload_n (i := 0) dX12_sign_95 rfl rfl ?_
              refine v_iload (i := 4) dX12_sign_96 rfl ?_
              refine v_iload_n (i := 1) dX12_sign_98 rfl rfl ?_
              refine v_iconst (v := 0) dX12_sign_99 (by decide) ?_
              refine v_lconst (v := 0) dX12_sign_100 (by decide) ?_
              obtain ⟨q462, q462_e, hF⟩ := Option.bind_eq_some_iff.mp hF
              refine c_X12_200 rfl sh_226 (by exact ltG hG (by decide)) (Nat.le_of_ble_eq_true rfl) dX12_sign_101 (s_X12_token _ q462_e hG) (fun r1 h1 hq => ?_)
              obtain ⟨rfl, hq, hG⟩ := hq
              replace hq := hq.symm
              subst hq
              simp only [Option.toList, List.nil_append]
              refine v_iconst (v := 1) dX12_sign_104 (by decide) ?_
              refine v_ireturn rfl dX12_sign_105 ?_
              obtain ⟨rfl, rfl⟩ := Prod.mk.inj (Option.some.inj hF)
              exact ⟨rfl, rfl, hG⟩
          · rw [if_pos c458] at hF
            refine v_bipush (v := 15) dX12_sign_81 (by decide) ?_
            refine v_istore (i := 4) dX12_sign_83 (by decide) (nlT rfl) ?_
            simp only [List.set_cons_zero, List.set_cons_succ]
            refine v_iload_n (i := 2) dX12_sign_85 rfl rfl ?_
            refine v_bipush (v := 60) dX12_sign_86 (by decide) ?_
            refine v_icmp_ne 95 dX12_sign_88 (by decide) (fun c464 => ?_) (fun c464 => ?_)
            · rw [if_neg c464] at hF
              refine v_aload_n (i := 0) dX12_sign_95 rfl rfl ?_
              refine v_iload (i := 4) dX12_sign_96 rfl ?_
              refine v_iload_n (i := 1) dX12_sign_98 rfl rfl ?_
              refine v_iconst (v := 0) dX12_sign_99 (by decide) ?_
              refine v_lconst (v := 0) dX12_sign_100 (by decide) ?_
              obtain ⟨q465, q465_e, hF⟩ := Option.bind_eq_some_iff.mp hF
              refine c_X12_200 rfl sh_226 (by exact ltG hG (by decide)) (Nat.le_of_ble_eq_true rfl) dX12_sign_101 (s_X12_token _ q465_e hG) (fun r1 h1 hq => ?_)
              obtain ⟨rfl, hq, hG⟩ := hq
              replace hq := hq.symm
              subst hq
              simp only [Option.toList, List.nil_append]
              refine v_iconst (v := 1) dX12_sign_104 (by decide) ?_
              refine v_ireturn rfl dX12_sign_105 ?_
              obtain ⟨rfl, rfl⟩ := Prod.mk.inj (Option.some.inj hF)
              exact ⟨rfl, rfl, hG⟩
            · rw [if_pos c464] at hF
              refine v_bipush (v := 13) dX12_sign_91 (by decide) ?_
              refine v_istore (i := 4) dX12_sign_93 (by decide) (nlT rfl) ?_
              simp only [List.set_cons_zero, List.set_cons_succ]
              refine v_aload_n (i := 0) dX12_sign_95 rfl rfl ?_
              refine v_iload (i := 4) dX12_sign_96 rfl ?_
              refine v_iload_n (i := 1) dX12_sign_98 rfl rfl ?_
              refine v_iconst (v := 0) dX12_sign_99 (by decide) ?_
              refine v_lconst (v := 0) dX12_sign_100 (by decide) ?_
              obtain ⟨q467, q467_e, hF⟩ := Option.bind_eq_some_iff.mp hF
              refine c_X12_200 rfl sh_226 (by exact ltG hG (by decide)) (Nat.le_of_ble_eq_true rfl) dX12_sign_101 (s_X12_token _ q467_e hG) (fun r1 h1 hq => ?_)
              obtain ⟨rfl, hq, hG⟩ := hq
              replace hq := hq.symm
              subst hq
              simp only [Option.toList, List.nil_append]
              refine v_iconst (v := 1) dX12_sign_104 (by decide) ?_
              refine v_ireturn rfl dX12_sign_105 ?_
              obtain ⟨rfl, rfl⟩ := Prod.mk.inj (Option.some.inj hF)
              exact ⟨rfl, rfl, hG⟩
        · rw [if_pos c457] at hF
          refine v_bipush (v := 10) dX12_sign_71 (by decide) ?_
          refine v_istore (i := 4) dX12_sign_73 (by decide) (nlT rfl) ?_
          simp only [List.set_cons_zero, List.set_cons_succ]
          refine v_iload_n (i := 2) dX12_sign_75 rfl rfl ?_
          refine v_bipush (v := 47) dX12_sign_76 (by decide) ?_
          refine v_icmp_ne 85 dX12_sign_78 (by decide) (fun c469 => ?_) (fun c469 => ?_)
          · rw [if_neg c469] at hF
            refine v_iload_n (i := 2) dX12_sign_85 rfl rfl ?_
            refine v_bipush (v := 60) dX12_sign_86 (by decide) ?_
            refine v_icmp_ne 95 dX12_sign_88 (by decide) (fun c470 => ?_) (fun c470 => ?_)
            · rw [if_neg c470] at hF
              refine v_aload_n (i := 0) dX12_sign_95 rfl rfl ?_
              refine v_iload (i := 4) dX12_sign_96 rfl ?_
              refine v_iload_n (i := 1) dX12_sign_98 rfl rfl ?_
              refine v_iconst (v := 0) dX12_sign_99 (by decide) ?_
              refine v_lconst (v := 0) dX12_sign_100 (by decide) ?_
              obtain ⟨q471, q471_e, hF⟩ := Option.bind_eq_some_iff.mp hF
              refine c_X12_200 rfl sh_226 (by exact ltG hG (by decide)) (Nat.le_of_ble_eq_true rfl) dX12_sign_101 (s_X12_token _ q471_e hG) (fun r1 h1 hq => ?_)
              obtain ⟨rfl, hq, hG⟩ := hq
              replace hq := hq.symm
              subst hq
              simp only [Option.toList, List.nil_append]
              refine v_iconst (v := 1) dX12_sign_104 (by decide) ?_
              refine v_ireturn rfl dX12_sign_105 ?_
              obtain ⟨rfl, rfl⟩ := Prod.mk.inj (Option.some.inj hF)
              exact ⟨rfl, rfl, hG⟩
            · rw [if_pos c470] at hF
              refine v_bipush (v := 13) dX12_sign_91 (by decide) ?_
              refine v_istore (i := 4) dX12_sign_93 (by decide) (nlT rfl) ?_
              simp only [List.set_cons_zero, List.set_cons_succ]
              refine v_aload_n (i := 0) dX12_sign_95 rfl rfl ?_
              refine v_iload (i := 4) dX12_sign_96 rfl ?_
              refine v_iload_n (i := 1) dX12_sign_98 rfl rfl ?_
              refine v_iconst (v := 0) dX12_sign_99 (by decide) ?_
              refine v_lconst (v := 0) dX12_sign_100 (by decide) ?_
              obtain ⟨q473, q473_e, hF⟩ := Option.bind_eq_some_iff.mp hF
              refine c_X12_200 rfl sh_226 (by exact ltG hG (by decide)) (Nat.le_of_ble_eq_true rfl) dX12_sign_101 (s_X12_token _ q473_e hG) (fun r1 h1 hq => ?_)
              obtain ⟨rfl, hq, hG⟩ := hq
              replace hq := hq.symm
              subst hq
              simp only [Option.toList, List.nil_append]
              refine v_iconst (v := 1) dX12_sign_104 (by decide) ?_
              refine v_ireturn rfl dX12_sign_105 ?_
              obtain ⟨rfl, rfl⟩ := Prod.mk.inj (Option.some.inj hF)
              exact ⟨rfl, rfl, hG⟩
          · rw [if_pos c469] at hF
            refine v_bipush (v := 15) dX12_sign_81 (by decide) ?_
            refine v_istore (i := 4) dX12_sign_83 (by decide) (nlT rfl) ?_
            simp only [List.set_cons_zero, List.set_cons_succ]
            refine v_iload_n (i := 2) dX12_sign_85 rfl rfl ?_
            refine v_bipush (v := 60) dX12_sign_86 (by decide) ?_
            refine v_icmp_ne 95 dX12_sign_88 (by decide) (fun c475 => ?_) (fun c475 => ?_)
            · rw [if_neg c475] at hF
              refine v_aload_n (i := 0) dX12_sign_95 rfl rfl ?_
              refine v_iload (i := 4) dX12_sign_96 rfl ?_
              refine v_iload_n (i := 1) dX12_sign_98 rfl rfl ?_
              refine v_iconst (v := 0) dX12_sign_99 (by decide) ?_
              refine v_lconst (v := 0) dX12_sign_100 (by decide) ?_
              obtain ⟨q476, q476_e, hF⟩ := Option.bind_eq_some_iff.mp hF
              refine c_X12_200 rfl sh_226 (by exact ltG hG (by decide)) (Nat.le_of_ble_eq_true rfl) dX12_sign_101 (s_X12_token _ q476_e hG) (fun r1 h1 hq => ?_)
              obtain ⟨rfl, hq, hG⟩ := hq
              replace hq := hq.symm
              subst hq
              simp only [Option.toList, List.nil_append]
              refine v_iconst (v := 1) dX12_sign_104 (by decide) ?_
              refine v_ireturn rfl dX12_sign_105 ?_
              obtain ⟨rfl, rfl⟩ := Prod.mk.inj (Option.some.inj hF)
              exact ⟨rfl, rfl, hG⟩
            · rw [if_pos c475] at hF
              refine v_bipush (v := 13) dX12_sign_91 (by decide) ?_
              refine v_istore (i := 4) dX12_sign_93 (by decide) (nlT rfl) ?_
              simp only [List.set_cons_zero, List.set_cons_succ]
              refine v_aload_n (i := 0) dX12_sign_95 rfl rfl ?_
              refine v_iload (i := 4) dX12_sign_96 rfl ?_
              refine v_iload_n (i := 1) dX12_sign_98 rfl rfl ?_
              refine v_iconst (v := 0) dX12_sign_99 (by decide) ?_
              refine v_lconst (v := 0) dX12_sign_100 (by decide) ?_
              obtain ⟨q478, q478_e, hF⟩ := Option.bind_eq_some_iff.mp hF
              refine c_X12_200 rfl sh_226 (by exact ltG hG (by decide)) (Nat.le_of_ble_eq_true rfl) dX12_sign_101 (s_X12_token _ q478_e hG) (fun r1 h1 hq => ?_)
              obtain ⟨rfl, hq, hG⟩ := hq
              replace hq := hq.symm
              subst hq
              simp only [Option.toList, List.nil_append]
              refine v_iconst (v := 1) dX12_sign_104 (by decide) ?_
              refine v_ireturn rfl dX12_sign_105 ?_
              obtain ⟨rfl, rfl⟩ := Prod.mk.inj (Option.some.inj hF)
              exact ⟨rfl, rfl, hG⟩
