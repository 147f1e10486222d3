/-! THE CLASS'S STATE: whole numbers and rows of all its objects, each by its number (100 times the object's, and the field's); last, which object a field leads to -/
abbrev CS : Type := (Nat → Int32) × (Nat → Int64) × (Nat → Nat → Int32) × (Nat → Nat → Int64) × (Nat → Nat)
abbrev c_ft_tape (σ : CS) : Nat → Int32 := σ.2.2.1 200
abbrev c_ft_tape_s (σ : CS) (i : Nat) (v : Int32) : CS := (σ.1, σ.2.1, va_up σ.2.2.1 200 (upd (σ.2.2.1 200) i v), σ.2.2.2)
abbrev c_ft_tape_w (σ : CS) (f : Nat → Int32) : CS := (σ.1, σ.2.1, va_up σ.2.2.1 200 f, σ.2.2.2)
abbrev c_ft_tapeLength (σ : CS) : Int32 := σ.1 201
abbrev c_ft_tapeLength_s (σ : CS) (v : Int32) : CS := (upd σ.1 201 v, σ.2)
abbrev c_ft_figure (σ : CS) : Nat := σ.2.2.2.2 203
abbrev c_ft_figure_s (σ : CS) (v : Nat) : CS := (σ.1, σ.2.1, σ.2.2.1, σ.2.2.2.1, va_up σ.2.2.2.2 203 v)
abbrev c_ft_spare (σ : CS) : Nat := σ.2.2.2.2 204
abbrev c_ft_spare_s (σ : CS) (v : Nat) : CS := (σ.1, σ.2.1, σ.2.2.1, σ.2.2.2.1, va_up σ.2.2.2.2 204 v)
abbrev c_ft_hasFigure (σ : CS) : Int32 := σ.1 205
abbrev c_ft_hasFigure_s (σ : CS) (v : Int32) : CS := (upd σ.1 205 v, σ.2)
abbrev c_ft_faultPlace (σ : CS) : Int32 := σ.1 206
abbrev c_ft_faultPlace_s (σ : CS) (v : Int32) : CS := (upd σ.1 206 v, σ.2)
abbrev c_ft_runs (σ : CS) : Int32 := σ.1 214
abbrev c_ft_runs_s (σ : CS) (v : Int32) : CS := (upd σ.1 214 v, σ.2)
abbrev c_ft_sweeping (σ : CS) : Nat → Int32 := σ.2.2.1 215
abbrev c_ft_sweeping_s (σ : CS) (i : Nat) (v : Int32) : CS := (σ.1, σ.2.1, va_up σ.2.2.1 215 (upd (σ.2.2.1 215) i v), σ.2.2.2)
abbrev c_ft_sweeping_w (σ : CS) (f : Nat → Int32) : CS := (σ.1, σ.2.1, va_up σ.2.2.1 215 f, σ.2.2.2)
abbrev c_ft_sweepingMany (σ : CS) : Int32 := σ.1 216
abbrev c_ft_sweepingMany_s (σ : CS) (v : Int32) : CS := (upd σ.1 216 v, σ.2)
abbrev c_fg_text (σ : CS) : Nat → Int32 := σ.2.2.1 300
abbrev c_fg_text_s (σ : CS) (i : Nat) (v : Int32) : CS := (σ.1, σ.2.1, va_up σ.2.2.1 300 (upd (σ.2.2.1 300) i v), σ.2.2.2)
abbrev c_fg_text_w (σ : CS) (f : Nat → Int32) : CS := (σ.1, σ.2.1, va_up σ.2.2.1 300 f, σ.2.2.2)
abbrev c_fg_length (σ : CS) : Int32 := σ.1 301
abbrev c_fg_length_s (σ : CS) (v : Int32) : CS := (upd σ.1 301 v, σ.2)
abbrev c_fg_type (σ : CS) : Nat → Int32 := σ.2.2.1 302
abbrev c_fg_type_s (σ : CS) (i : Nat) (v : Int32) : CS := (σ.1, σ.2.1, va_up σ.2.2.1 302 (upd (σ.2.2.1 302) i v), σ.2.2.2)
abbrev c_fg_type_w (σ : CS) (f : Nat → Int32) : CS := (σ.1, σ.2.1, va_up σ.2.2.1 302 f, σ.2.2.2)
abbrev c_fg_at (σ : CS) : Nat → Int32 := σ.2.2.1 303
abbrev c_fg_at_s (σ : CS) (i : Nat) (v : Int32) : CS := (σ.1, σ.2.1, va_up σ.2.2.1 303 (upd (σ.2.2.1 303) i v), σ.2.2.2)
abbrev c_fg_at_w (σ : CS) (f : Nat → Int32) : CS := (σ.1, σ.2.1, va_up σ.2.2.1 303 f, σ.2.2.2)
abbrev c_fg_data (σ : CS) : Nat → Int32 := σ.2.2.1 304
abbrev c_fg_data_s (σ : CS) (i : Nat) (v : Int32) : CS := (σ.1, σ.2.1, va_up σ.2.2.1 304 (upd (σ.2.2.1 304) i v), σ.2.2.2)
abbrev c_fg_data_w (σ : CS) (f : Nat → Int32) : CS := (σ.1, σ.2.1, va_up σ.2.2.1 304 f, σ.2.2.2)
abbrev c_fg_first (σ : CS) : Nat → Int32 := σ.2.2.1 305
abbrev c_fg_first_s (σ : CS) (i : Nat) (v : Int32) : CS := (σ.1, σ.2.1, va_up σ.2.2.1 305 (upd (σ.2.2.1 305) i v), σ.2.2.2)
abbrev c_fg_first_w (σ : CS) (f : Nat → Int32) : CS := (σ.1, σ.2.1, va_up σ.2.2.1 305 f, σ.2.2.2)
abbrev c_fg_next (σ : CS) : Nat → Int32 := σ.2.2.1 306
abbrev c_fg_next_s (σ : CS) (i : Nat) (v : Int32) : CS := (σ.1, σ.2.1, va_up σ.2.2.1 306 (upd (σ.2.2.1 306) i v), σ.2.2.2)
abbrev c_fg_next_w (σ : CS) (f : Nat → Int32) : CS := (σ.1, σ.2.1, va_up σ.2.2.1 306 f, σ.2.2.2)
abbrev c_fg_body (σ : CS) : Nat → Int32 := σ.2.2.1 307
abbrev c_fg_body_s (σ : CS) (i : Nat) (v : Int32) : CS := (σ.1, σ.2.1, va_up σ.2.2.1 307 (upd (σ.2.2.1 307) i v), σ.2.2.2)
abbrev c_fg_body_w (σ : CS) (f : Nat → Int32) : CS := (σ.1, σ.2.1, va_up σ.2.2.1 307 f, σ.2.2.2)
abbrev c_fg_other (σ : CS) : Nat → Int32 := σ.2.2.1 308
abbrev c_fg_other_s (σ : CS) (i : Nat) (v : Int32) : CS := (σ.1, σ.2.1, va_up σ.2.2.1 308 (upd (σ.2.2.1 308) i v), σ.2.2.2)
abbrev c_fg_other_w (σ : CS) (f : Nat → Int32) : CS := (σ.1, σ.2.1, va_up σ.2.2.1 308 f, σ.2.2.2)
abbrev c_fg_nodes (σ : CS) : Int32 := σ.1 309
abbrev c_fg_nodes_s (σ : CS) (v : Int32) : CS := (upd σ.1 309 v, σ.2)
abbrev c_fg_deeds (σ : CS) : Int32 := σ.1 310
abbrev c_fg_deeds_s (σ : CS) (v : Int32) : CS := (upd σ.1 310 v, σ.2)
abbrev c_fg_firstDeed (σ : CS) : Int32 := σ.1 311
abbrev c_fg_firstDeed_s (σ : CS) (v : Int32) : CS := (upd σ.1 311 v, σ.2)
abbrev c_fg_nameAt (σ : CS) : Nat → Int32 := σ.2.2.1 312
abbrev c_fg_nameAt_s (σ : CS) (i : Nat) (v : Int32) : CS := (σ.1, σ.2.1, va_up σ.2.2.1 312 (upd (σ.2.2.1 312) i v), σ.2.2.2)
abbrev c_fg_nameAt_w (σ : CS) (f : Nat → Int32) : CS := (σ.1, σ.2.1, va_up σ.2.2.1 312 f, σ.2.2.2)
abbrev c_fg_names (σ : CS) : Nat → Int32 := σ.2.2.1 313
abbrev c_fg_names_s (σ : CS) (i : Nat) (v : Int32) : CS := (σ.1, σ.2.1, va_up σ.2.2.1 313 (upd (σ.2.2.1 313) i v), σ.2.2.2)
abbrev c_fg_names_w (σ : CS) (f : Nat → Int32) : CS := (σ.1, σ.2.1, va_up σ.2.2.1 313 f, σ.2.2.2)
abbrev c_fg_params (σ : CS) : Nat → Int32 := σ.2.2.1 314
abbrev c_fg_params_s (σ : CS) (i : Nat) (v : Int32) : CS := (σ.1, σ.2.1, va_up σ.2.2.1 314 (upd (σ.2.2.1 314) i v), σ.2.2.2)
abbrev c_fg_params_w (σ : CS) (f : Nat → Int32) : CS := (σ.1, σ.2.1, va_up σ.2.2.1 314 f, σ.2.2.2)
abbrev c_fg_macroAt (σ : CS) : Nat → Int32 := σ.2.2.1 315
abbrev c_fg_macroAt_s (σ : CS) (i : Nat) (v : Int32) : CS := (σ.1, σ.2.1, va_up σ.2.2.1 315 (upd (σ.2.2.1 315) i v), σ.2.2.2)
abbrev c_fg_macroAt_w (σ : CS) (f : Nat → Int32) : CS := (σ.1, σ.2.1, va_up σ.2.2.1 315 f, σ.2.2.2)
abbrev c_fg_macroBody (σ : CS) : Nat → Int32 := σ.2.2.1 316
abbrev c_fg_macroBody_s (σ : CS) (i : Nat) (v : Int32) : CS := (σ.1, σ.2.1, va_up σ.2.2.1 316 (upd (σ.2.2.1 316) i v), σ.2.2.2)
abbrev c_fg_macroBody_w (σ : CS) (f : Nat → Int32) : CS := (σ.1, σ.2.1, va_up σ.2.2.1 316 f, σ.2.2.2)
abbrev c_fg_macros (σ : CS) : Int32 := σ.1 317
abbrev c_fg_macros_s (σ : CS) (v : Int32) : CS := (upd σ.1 317 v, σ.2)
abbrev c_sp_text (σ : CS) : Nat → Int32 := σ.2.2.1 400
abbrev c_sp_text_s (σ : CS) (i : Nat) (v : Int32) : CS := (σ.1, σ.2.1, va_up σ.2.2.1 400 (upd (σ.2.2.1 400) i v), σ.2.2.2)
abbrev c_sp_text_w (σ : CS) (f : Nat → Int32) : CS := (σ.1, σ.2.1, va_up σ.2.2.1 400 f, σ.2.2.2)
abbrev c_sp_length (σ : CS) : Int32 := σ.1 401
abbrev c_sp_length_s (σ : CS) (v : Int32) : CS := (upd σ.1 401 v, σ.2)
abbrev c_sp_type (σ : CS) : Nat → Int32 := σ.2.2.1 402
abbrev c_sp_type_s (σ : CS) (i : Nat) (v : Int32) : CS := (σ.1, σ.2.1, va_up σ.2.2.1 402 (upd (σ.2.2.1 402) i v), σ.2.2.2)
abbrev c_sp_type_w (σ : CS) (f : Nat → Int32) : CS := (σ.1, σ.2.1, va_up σ.2.2.1 402 f, σ.2.2.2)
abbrev c_sp_at (σ : CS) : Nat → Int32 := σ.2.2.1 403
abbrev c_sp_at_s (σ : CS) (i : Nat) (v : Int32) : CS := (σ.1, σ.2.1, va_up σ.2.2.1 403 (upd (σ.2.2.1 403) i v), σ.2.2.2)
abbrev c_sp_at_w (σ : CS) (f : Nat → Int32) : CS := (σ.1, σ.2.1, va_up σ.2.2.1 403 f, σ.2.2.2)
abbrev c_sp_data (σ : CS) : Nat → Int32 := σ.2.2.1 404
abbrev c_sp_data_s (σ : CS) (i : Nat) (v : Int32) : CS := (σ.1, σ.2.1, va_up σ.2.2.1 404 (upd (σ.2.2.1 404) i v), σ.2.2.2)
abbrev c_sp_data_w (σ : CS) (f : Nat → Int32) : CS := (σ.1, σ.2.1, va_up σ.2.2.1 404 f, σ.2.2.2)
abbrev c_sp_first (σ : CS) : Nat → Int32 := σ.2.2.1 405
abbrev c_sp_first_s (σ : CS) (i : Nat) (v : Int32) : CS := (σ.1, σ.2.1, va_up σ.2.2.1 405 (upd (σ.2.2.1 405) i v), σ.2.2.2)
abbrev c_sp_first_w (σ : CS) (f : Nat → Int32) : CS := (σ.1, σ.2.1, va_up σ.2.2.1 405 f, σ.2.2.2)
abbrev c_sp_next (σ : CS) : Nat → Int32 := σ.2.2.1 406
abbrev c_sp_next_s (σ : CS) (i : Nat) (v : Int32) : CS := (σ.1, σ.2.1, va_up σ.2.2.1 406 (upd (σ.2.2.1 406) i v), σ.2.2.2)
abbrev c_sp_next_w (σ : CS) (f : Nat → Int32) : CS := (σ.1, σ.2.1, va_up σ.2.2.1 406 f, σ.2.2.2)
abbrev c_sp_body (σ : CS) : Nat → Int32 := σ.2.2.1 407
abbrev c_sp_body_s (σ : CS) (i : Nat) (v : Int32) : CS := (σ.1, σ.2.1, va_up σ.2.2.1 407 (upd (σ.2.2.1 407) i v), σ.2.2.2)
abbrev c_sp_body_w (σ : CS) (f : Nat → Int32) : CS := (σ.1, σ.2.1, va_up σ.2.2.1 407 f, σ.2.2.2)
abbrev c_sp_other (σ : CS) : Nat → Int32 := σ.2.2.1 408
abbrev c_sp_other_s (σ : CS) (i : Nat) (v : Int32) : CS := (σ.1, σ.2.1, va_up σ.2.2.1 408 (upd (σ.2.2.1 408) i v), σ.2.2.2)
abbrev c_sp_other_w (σ : CS) (f : Nat → Int32) : CS := (σ.1, σ.2.1, va_up σ.2.2.1 408 f, σ.2.2.2)
abbrev c_sp_nodes (σ : CS) : Int32 := σ.1 409
abbrev c_sp_nodes_s (σ : CS) (v : Int32) : CS := (upd σ.1 409 v, σ.2)
abbrev c_sp_deeds (σ : CS) : Int32 := σ.1 410
abbrev c_sp_deeds_s (σ : CS) (v : Int32) : CS := (upd σ.1 410 v, σ.2)
abbrev c_sp_firstDeed (σ : CS) : Int32 := σ.1 411
abbrev c_sp_firstDeed_s (σ : CS) (v : Int32) : CS := (upd σ.1 411 v, σ.2)
abbrev c_sp_nameAt (σ : CS) : Nat → Int32 := σ.2.2.1 412
abbrev c_sp_nameAt_s (σ : CS) (i : Nat) (v : Int32) : CS := (σ.1, σ.2.1, va_up σ.2.2.1 412 (upd (σ.2.2.1 412) i v), σ.2.2.2)
abbrev c_sp_nameAt_w (σ : CS) (f : Nat → Int32) : CS := (σ.1, σ.2.1, va_up σ.2.2.1 412 f, σ.2.2.2)
abbrev c_sp_names (σ : CS) : Nat → Int32 := σ.2.2.1 413
abbrev c_sp_names_s (σ : CS) (i : Nat) (v : Int32) : CS := (σ.1, σ.2.1, va_up σ.2.2.1 413 (upd (σ.2.2.1 413) i v), σ.2.2.2)
abbrev c_sp_names_w (σ : CS) (f : Nat → Int32) : CS := (σ.1, σ.2.1, va_up σ.2.2.1 413 f, σ.2.2.2)
abbrev c_sp_params (σ : CS) : Nat → Int32 := σ.2.2.1 414
abbrev c_sp_params_s (σ : CS) (i : Nat) (v : Int32) : CS := (σ.1, σ.2.1, va_up σ.2.2.1 414 (upd (σ.2.2.1 414) i v), σ.2.2.2)
abbrev c_sp_params_w (σ : CS) (f : Nat → Int32) : CS := (σ.1, σ.2.1, va_up σ.2.2.1 414 f, σ.2.2.2)
abbrev c_sp_macroAt (σ : CS) : Nat → Int32 := σ.2.2.1 415
abbrev c_sp_macroAt_s (σ : CS) (i : Nat) (v : Int32) : CS := (σ.1, σ.2.1, va_up σ.2.2.1 415 (upd (σ.2.2.1 415) i v), σ.2.2.2)
abbrev c_sp_macroAt_w (σ : CS) (f : Nat → Int32) : CS := (σ.1, σ.2.1, va_up σ.2.2.1 415 f, σ.2.2.2)
abbrev c_sp_macroBody (σ : CS) : Nat → Int32 := σ.2.2.1 416
abbrev c_sp_macroBody_s (σ : CS) (i : Nat) (v : Int32) : CS := (σ.1, σ.2.1, va_up σ.2.2.1 416 (upd (σ.2.2.1 416) i v), σ.2.2.2)
abbrev c_sp_macroBody_w (σ : CS) (f : Nat → Int32) : CS := (σ.1, σ.2.1, va_up σ.2.2.1 416 f, σ.2.2.2)
abbrev c_sp_macros (σ : CS) : Int32 := σ.1 417
abbrev c_sp_macros_s (σ : CS) (v : Int32) : CS := (upd σ.1 417 v, σ.2)
abbrev c_ou_bytes (σ : CS) : Nat → Int32 := σ.2.2.1 500
abbrev c_ou_bytes_s (σ : CS) (i : Nat) (v : Int32) : CS := (σ.1, σ.2.1, va_up σ.2.2.1 500 (upd (σ.2.2.1 500) i v), σ.2.2.2)
abbrev c_ou_bytes_w (σ : CS) (f : Nat → Int32) : CS := (σ.1, σ.2.1, va_up σ.2.2.1 500 f, σ.2.2.2)
abbrev c_ou_digits (σ : CS) : Nat → Int32 := σ.2.2.1 501
abbrev c_ou_digits_s (σ : CS) (i : Nat) (v : Int32) : CS := (σ.1, σ.2.1, va_up σ.2.2.1 501 (upd (σ.2.2.1 501) i v), σ.2.2.2)
abbrev c_ou_digits_w (σ : CS) (f : Nat → Int32) : CS := (σ.1, σ.2.1, va_up σ.2.2.1 501 f, σ.2.2.2)
abbrev c_ou_length (σ : CS) : Int32 := σ.1 502
abbrev c_ou_length_s (σ : CS) (v : Int32) : CS := (upd σ.1 502 v, σ.2)
abbrev c_rd_figure (σ : CS) : Nat := σ.2.2.2.2 600
abbrev c_rd_figure_s (σ : CS) (v : Nat) : CS := (σ.1, σ.2.1, σ.2.2.1, σ.2.2.2.1, va_up σ.2.2.2.2 600 v)
abbrev c_rd_at (σ : CS) : Int32 := σ.1 601
abbrev c_rd_at_s (σ : CS) (v : Int32) : CS := (upd σ.1 601 v, σ.2)
abbrev c_rd_end (σ : CS) : Int32 := σ.1 602
abbrev c_rd_end_s (σ : CS) (v : Int32) : CS := (upd σ.1 602 v, σ.2)
abbrev c_rd_kind (σ : CS) : Int32 := σ.1 603
abbrev c_rd_kind_s (σ : CS) (v : Int32) : CS := (upd σ.1 603 v, σ.2)
abbrev c_rd_sign (σ : CS) : Int32 := σ.1 604
abbrev c_rd_sign_s (σ : CS) (v : Int32) : CS := (upd σ.1 604 v, σ.2)
abbrev c_rd_scope (σ : CS) : Int32 := σ.1 605
abbrev c_rd_scope_s (σ : CS) (v : Int32) : CS := (upd σ.1 605 v, σ.2)
abbrev c_rd_depth (σ : CS) : Int32 := σ.1 606
abbrev c_rd_depth_s (σ : CS) (v : Int32) : CS := (upd σ.1 606 v, σ.2)
abbrev c_rd_fault (σ : CS) : Int32 := σ.1 607
abbrev c_rd_fault_s (σ : CS) (v : Int32) : CS := (upd σ.1 607 v, σ.2)
abbrev c_rd_faultAt (σ : CS) : Int32 := σ.1 608
abbrev c_rd_faultAt_s (σ : CS) (v : Int32) : CS := (upd σ.1 608 v, σ.2)
abbrev c_pr_figure (σ : CS) : Nat := σ.2.2.2.2 701
abbrev c_pr_figure_s (σ : CS) (v : Nat) : CS := (σ.1, σ.2.1, σ.2.2.1, σ.2.2.2.1, va_up σ.2.2.2.2 701 v)
abbrev c_pr_node (σ : CS) : Nat → Int32 := σ.2.2.1 702
abbrev c_pr_node_s (σ : CS) (i : Nat) (v : Int32) : CS := (σ.1, σ.2.1, va_up σ.2.2.1 702 (upd (σ.2.2.1 702) i v), σ.2.2.2)
abbrev c_pr_node_w (σ : CS) (f : Nat → Int32) : CS := (σ.1, σ.2.1, va_up σ.2.2.1 702 f, σ.2.2.2)
abbrev c_pr_cursor (σ : CS) : Nat → Int32 := σ.2.2.1 703
abbrev c_pr_cursor_s (σ : CS) (i : Nat) (v : Int32) : CS := (σ.1, σ.2.1, va_up σ.2.2.1 703 (upd (σ.2.2.1 703) i v), σ.2.2.2)
abbrev c_pr_cursor_w (σ : CS) (f : Nat → Int32) : CS := (σ.1, σ.2.1, va_up σ.2.2.1 703 f, σ.2.2.2)
abbrev c_pr_wrapped (σ : CS) : Nat → Int32 := σ.2.2.1 704
abbrev c_pr_wrapped_s (σ : CS) (i : Nat) (v : Int32) : CS := (σ.1, σ.2.1, va_up σ.2.2.1 704 (upd (σ.2.2.1 704) i v), σ.2.2.2)
abbrev c_pr_wrapped_w (σ : CS) (f : Nat → Int32) : CS := (σ.1, σ.2.1, va_up σ.2.2.1 704 f, σ.2.2.2)
abbrev c_pr_top (σ : CS) : Int32 := σ.1 705
abbrev c_pr_top_s (σ : CS) (v : Int32) : CS := (upd σ.1 705 v, σ.2)
abbrev c_rk_failure (σ : CS) : Int32 := σ.1 800
abbrev c_rk_failure_s (σ : CS) (v : Int32) : CS := (upd σ.1 800 v, σ.2)
abbrev c_th_kinds (σ : CS) : Nat → Int32 := σ.2.2.1 900
abbrev c_th_kinds_s (σ : CS) (i : Nat) (v : Int32) : CS := (σ.1, σ.2.1, va_up σ.2.2.1 900 (upd (σ.2.2.1 900) i v), σ.2.2.2)
abbrev c_th_kinds_w (σ : CS) (f : Nat → Int32) : CS := (σ.1, σ.2.1, va_up σ.2.2.1 900 f, σ.2.2.2)
abbrev c_th_leaning (σ : CS) : Nat → Int32 := σ.2.2.1 901
abbrev c_th_leaning_s (σ : CS) (i : Nat) (v : Int32) : CS := (σ.1, σ.2.1, va_up σ.2.2.1 901 (upd (σ.2.2.1 901) i v), σ.2.2.2)
abbrev c_th_leaning_w (σ : CS) (f : Nat → Int32) : CS := (σ.1, σ.2.1, va_up σ.2.2.1 901 f, σ.2.2.2)
abbrev c_th_parts (σ : CS) : Nat → Int64 := σ.2.2.2.1 902
abbrev c_th_parts_s (σ : CS) (i : Nat) (v : Int64) : CS := (σ.1, σ.2.1, σ.2.2.1, va_up σ.2.2.2.1 902 (vp_updL (σ.2.2.2.1 902) i v), σ.2.2.2.2)
abbrev c_th_held (σ : CS) : Nat → Int32 := σ.2.2.1 903
abbrev c_th_held_s (σ : CS) (i : Nat) (v : Int32) : CS := (σ.1, σ.2.1, va_up σ.2.2.1 903 (upd (σ.2.2.1 903) i v), σ.2.2.2)
abbrev c_th_held_w (σ : CS) (f : Nat → Int32) : CS := (σ.1, σ.2.1, va_up σ.2.2.1 903 f, σ.2.2.2)
abbrev c_th_many (σ : CS) : Int32 := σ.1 904
abbrev c_th_many_s (σ : CS) (v : Int32) : CS := (upd σ.1 904 v, σ.2)
abbrev c_fr_moved (σ : CS) : Nat → Int32 := σ.2.2.1 1000
abbrev c_fr_moved_s (σ : CS) (i : Nat) (v : Int32) : CS := (σ.1, σ.2.1, va_up σ.2.2.1 1000 (upd (σ.2.2.1 1000) i v), σ.2.2.2)
abbrev c_fr_moved_w (σ : CS) (f : Nat → Int32) : CS := (σ.1, σ.2.1, va_up σ.2.2.1 1000 f, σ.2.2.2)
abbrev c_fr_toX (σ : CS) : Nat → Int64 := σ.2.2.2.1 1001
abbrev c_fr_toX_s (σ : CS) (i : Nat) (v : Int64) : CS := (σ.1, σ.2.1, σ.2.2.1, va_up σ.2.2.2.1 1001 (vp_updL (σ.2.2.2.1 1001) i v), σ.2.2.2.2)
abbrev c_fr_toY (σ : CS) : Nat → Int64 := σ.2.2.2.1 1002
abbrev c_fr_toY_s (σ : CS) (i : Nat) (v : Int64) : CS := (σ.1, σ.2.1, σ.2.2.1, va_up σ.2.2.2.1 1002 (vp_updL (σ.2.2.2.1 1002) i v), σ.2.2.2.2)
abbrev c_fr_wasMoved (σ : CS) : Nat → Int32 := σ.2.2.1 1003
abbrev c_fr_wasMoved_s (σ : CS) (i : Nat) (v : Int32) : CS := (σ.1, σ.2.1, va_up σ.2.2.1 1003 (upd (σ.2.2.1 1003) i v), σ.2.2.2)
abbrev c_fr_wasMoved_w (σ : CS) (f : Nat → Int32) : CS := (σ.1, σ.2.1, va_up σ.2.2.1 1003 f, σ.2.2.2)
abbrev c_fr_wasX (σ : CS) : Nat → Int64 := σ.2.2.2.1 1004
abbrev c_fr_wasX_s (σ : CS) (i : Nat) (v : Int64) : CS := (σ.1, σ.2.1, σ.2.2.1, va_up σ.2.2.2.1 1004 (vp_updL (σ.2.2.2.1 1004) i v), σ.2.2.2.2)
abbrev c_fr_wasY (σ : CS) : Nat → Int64 := σ.2.2.2.1 1005
abbrev c_fr_wasY_s (σ : CS) (i : Nat) (v : Int64) : CS := (σ.1, σ.2.1, σ.2.2.1, va_up σ.2.2.2.1 1005 (vp_updL (σ.2.2.2.1 1005) i v), σ.2.2.2.2)
abbrev c_fr_thing (σ : CS) : Nat → Int32 := σ.2.2.1 1006
abbrev c_fr_thing_s (σ : CS) (i : Nat) (v : Int32) : CS := (σ.1, σ.2.1, va_up σ.2.2.1 1006 (upd (σ.2.2.1 1006) i v), σ.2.2.2)
abbrev c_fr_thing_w (σ : CS) (f : Nat → Int32) : CS := (σ.1, σ.2.1, va_up σ.2.2.1 1006 f, σ.2.2.2)
abbrev c_fr_came (σ : CS) : Int32 := σ.1 1007
abbrev c_fr_came_s (σ : CS) (v : Int32) : CS := (upd σ.1 1007 v, σ.2)
abbrev c_to_drawn (σ : CS) : Nat → Int32 := σ.2.2.1 1100
abbrev c_to_drawn_s (σ : CS) (i : Nat) (v : Int32) : CS := (σ.1, σ.2.1, va_up σ.2.2.1 1100 (upd (σ.2.2.1 1100) i v), σ.2.2.2)
abbrev c_to_drawn_w (σ : CS) (f : Nat → Int32) : CS := (σ.1, σ.2.1, va_up σ.2.2.1 1100 f, σ.2.2.2)
abbrev c_to_stated (σ : CS) : Nat → Int32 := σ.2.2.1 1101
abbrev c_to_stated_s (σ : CS) (i : Nat) (v : Int32) : CS := (σ.1, σ.2.1, va_up σ.2.2.1 1101 (upd (σ.2.2.1 1101) i v), σ.2.2.2)
abbrev c_to_stated_w (σ : CS) (f : Nat → Int32) : CS := (σ.1, σ.2.1, va_up σ.2.2.1 1101 f, σ.2.2.2)
abbrev c_to_failures (σ : CS) : Nat → Int32 := σ.2.2.1 1102
abbrev c_to_failures_s (σ : CS) (i : Nat) (v : Int32) : CS := (σ.1, σ.2.1, va_up σ.2.2.1 1102 (upd (σ.2.2.1 1102) i v), σ.2.2.2)
abbrev c_to_failures_w (σ : CS) (f : Nat → Int32) : CS := (σ.1, σ.2.1, va_up σ.2.2.1 1102 f, σ.2.2.2)
abbrev c_to_bytes (σ : CS) : Nat → Int32 := σ.2.2.1 1103
abbrev c_to_bytes_s (σ : CS) (i : Nat) (v : Int32) : CS := (σ.1, σ.2.1, va_up σ.2.2.1 1103 (upd (σ.2.2.1 1103) i v), σ.2.2.2)
abbrev c_to_bytes_w (σ : CS) (f : Nat → Int32) : CS := (σ.1, σ.2.1, va_up σ.2.2.1 1103 f, σ.2.2.2)
abbrev c_to_draws (σ : CS) : Int32 := σ.1 1104
abbrev c_to_draws_s (σ : CS) (v : Int32) : CS := (upd σ.1 1104 v, σ.2)
abbrev c_to_states (σ : CS) : Int32 := σ.1 1105
abbrev c_to_states_s (σ : CS) (v : Int32) : CS := (upd σ.1 1105 v, σ.2)
abbrev c_to_falls (σ : CS) : Int32 := σ.1 1106
abbrev c_to_falls_s (σ : CS) (v : Int32) : CS := (upd σ.1 1106 v, σ.2)
abbrev c_to_steps (σ : CS) : Int32 := σ.1 1107
abbrev c_to_steps_s (σ : CS) (v : Int32) : CS := (upd σ.1 1107 v, σ.2)
abbrev c_to_spent (σ : CS) : Int32 := σ.1 1108
abbrev c_to_spent_s (σ : CS) (v : Int32) : CS := (upd σ.1 1108 v, σ.2)
abbrev c_ru_figure (σ : CS) : Nat := σ.2.2.2.2 1202
abbrev c_ru_figure_s (σ : CS) (v : Nat) : CS := (σ.1, σ.2.1, σ.2.2.1, σ.2.2.2.1, va_up σ.2.2.2.2 1202 v)
abbrev c_ru_node (σ : CS) : Nat → Int32 := σ.2.2.1 1203
abbrev c_ru_node_s (σ : CS) (i : Nat) (v : Int32) : CS := (σ.1, σ.2.1, va_up σ.2.2.1 1203 (upd (σ.2.2.1 1203) i v), σ.2.2.2)
abbrev c_ru_node_w (σ : CS) (f : Nat → Int32) : CS := (σ.1, σ.2.1, va_up σ.2.2.1 1203 f, σ.2.2.2)
abbrev c_ru_cursor (σ : CS) : Nat → Int32 := σ.2.2.1 1204
abbrev c_ru_cursor_s (σ : CS) (i : Nat) (v : Int32) : CS := (σ.1, σ.2.1, va_up σ.2.2.1 1204 (upd (σ.2.2.1 1204) i v), σ.2.2.2)
abbrev c_ru_cursor_w (σ : CS) (f : Nat → Int32) : CS := (σ.1, σ.2.1, va_up σ.2.2.1 1204 f, σ.2.2.2)
abbrev c_ru_floor (σ : CS) : Nat → Int32 := σ.2.2.1 1205
abbrev c_ru_floor_s (σ : CS) (i : Nat) (v : Int32) : CS := (σ.1, σ.2.1, va_up σ.2.2.1 1205 (upd (σ.2.2.1 1205) i v), σ.2.2.2)
abbrev c_ru_floor_w (σ : CS) (f : Nat → Int32) : CS := (σ.1, σ.2.1, va_up σ.2.2.1 1205 f, σ.2.2.2)
abbrev c_ru_inBlock (σ : CS) : Nat → Int32 := σ.2.2.1 1206
abbrev c_ru_inBlock_s (σ : CS) (i : Nat) (v : Int32) : CS := (σ.1, σ.2.1, va_up σ.2.2.1 1206 (upd (σ.2.2.1 1206) i v), σ.2.2.2)
abbrev c_ru_inBlock_w (σ : CS) (f : Nat → Int32) : CS := (σ.1, σ.2.1, va_up σ.2.2.1 1206 f, σ.2.2.2)
abbrev c_ru_turns (σ : CS) : Nat → Int32 := σ.2.2.1 1207
abbrev c_ru_turns_s (σ : CS) (i : Nat) (v : Int32) : CS := (σ.1, σ.2.1, va_up σ.2.2.1 1207 (upd (σ.2.2.1 1207) i v), σ.2.2.2)
abbrev c_ru_turns_w (σ : CS) (f : Nat → Int32) : CS := (σ.1, σ.2.1, va_up σ.2.2.1 1207 f, σ.2.2.2)
abbrev c_ru_top (σ : CS) : Int32 := σ.1 1208
abbrev c_ru_top_s (σ : CS) (v : Int32) : CS := (upd σ.1 1208 v, σ.2)
abbrev c_ru_value (σ : CS) : Nat → Int32 := σ.2.2.1 1209
abbrev c_ru_value_s (σ : CS) (i : Nat) (v : Int32) : CS := (σ.1, σ.2.1, va_up σ.2.2.1 1209 (upd (σ.2.2.1 1209) i v), σ.2.2.2)
abbrev c_ru_value_w (σ : CS) (f : Nat → Int32) : CS := (σ.1, σ.2.1, va_up σ.2.2.1 1209 f, σ.2.2.2)
abbrev c_ru_values (σ : CS) : Int32 := σ.1 1210
abbrev c_ru_values_s (σ : CS) (v : Int32) : CS := (upd σ.1 1210 v, σ.2)
abbrev c_ru_holds (σ : CS) : Nat → Int32 := σ.2.2.1 1211
abbrev c_ru_holds_s (σ : CS) (i : Nat) (v : Int32) : CS := (σ.1, σ.2.1, va_up σ.2.2.1 1211 (upd (σ.2.2.1 1211) i v), σ.2.2.2)
abbrev c_ru_holds_w (σ : CS) (f : Nat → Int32) : CS := (σ.1, σ.2.1, va_up σ.2.2.1 1211 f, σ.2.2.2)
abbrev c_ru_frame (σ : CS) : Int32 := σ.1 1212
abbrev c_ru_frame_s (σ : CS) (v : Int32) : CS := (upd σ.1 1212 v, σ.2)
abbrev c_wo_arguments (σ : CS) : Nat → Int32 := σ.2.2.1 1303
abbrev c_wo_arguments_s (σ : CS) (i : Nat) (v : Int32) : CS := (σ.1, σ.2.1, va_up σ.2.2.1 1303 (upd (σ.2.2.1 1303) i v), σ.2.2.2)
abbrev c_wo_arguments_w (σ : CS) (f : Nat → Int32) : CS := (σ.1, σ.2.1, va_up σ.2.2.1 1303 f, σ.2.2.2)
abbrev c_wo_x (σ : CS) : Int64 := σ.2.1 1304
abbrev c_wo_x_s (σ : CS) (v : Int64) : CS := (σ.1, vp_updL σ.2.1 1304 v, σ.2.2)
abbrev c_wo_y (σ : CS) : Int64 := σ.2.1 1305
abbrev c_wo_y_s (σ : CS) (v : Int64) : CS := (σ.1, vp_updL σ.2.1 1305 v, σ.2.2)
abbrev c_wo_a (σ : CS) : Int64 := σ.2.1 1306
abbrev c_wo_a_s (σ : CS) (v : Int64) : CS := (σ.1, vp_updL σ.2.1 1306 v, σ.2.2)
abbrev c_wo_b (σ : CS) : Int64 := σ.2.1 1307
abbrev c_wo_b_s (σ : CS) (v : Int64) : CS := (σ.1, vp_updL σ.2.1 1307 v, σ.2.2)
abbrev c_wo_c (σ : CS) : Int64 := σ.2.1 1308
abbrev c_wo_c_s (σ : CS) (v : Int64) : CS := (σ.1, vp_updL σ.2.1 1308 v, σ.2.2)
abbrev c_wo_square (σ : CS) : Int64 := σ.2.1 1309
abbrev c_wo_square_s (σ : CS) (v : Int64) : CS := (σ.1, vp_updL σ.2.1 1309 v, σ.2.2)
def cF_ft (G : gAd) (σ : CS) : List Value := [.ref (G.1 201), .int (σ.1 201), .ref (G.1 500), .ref (G.1 (σ.2.2.2.2 203)), .ref (G.1 (σ.2.2.2.2 204)), .int (σ.1 205), .int (σ.1 206), .ref (G.1 600), .ref (G.1 700), .ref (G.1 800), .ref (G.1 900), .ref (G.1 1000), .ref (G.1 1100), .ref (G.1 1200), .int (σ.1 214), .ref (G.1 216), .int (σ.1 216)]
def cF_fg (G : gAd) (σ : CS) : List Value := [.ref (G.1 301), .int (σ.1 301), .ref (G.1 303), .ref (G.1 304), .ref (G.1 305), .ref (G.1 306), .ref (G.1 307), .ref (G.1 308), .ref (G.1 309), .int (σ.1 309), .int (σ.1 310), .int (σ.1 311), .ref (G.1 313), .ref (G.1 314), .ref (G.1 315), .ref (G.1 316), .ref (G.1 317), .int (σ.1 317)]
def cF_sp (G : gAd) (σ : CS) : List Value := [.ref (G.1 401), .int (σ.1 401), .ref (G.1 403), .ref (G.1 404), .ref (G.1 405), .ref (G.1 406), .ref (G.1 407), .ref (G.1 408), .ref (G.1 409), .int (σ.1 409), .int (σ.1 410), .int (σ.1 411), .ref (G.1 413), .ref (G.1 414), .ref (G.1 415), .ref (G.1 416), .ref (G.1 417), .int (σ.1 417)]
def cF_ou (G : gAd) (σ : CS) : List Value := [.ref (G.1 501), .ref (G.1 502), .int (σ.1 502)]
def cF_rd (G : gAd) (σ : CS) : List Value := [.ref (G.1 (σ.2.2.2.2 600)), .int (σ.1 601), .int (σ.1 602), .int (σ.1 603), .int (σ.1 604), .int (σ.1 605), .int (σ.1 606), .int (σ.1 607), .int (σ.1 608)]
def cF_pr (G : gAd) (σ : CS) : List Value := [.ref (G.1 500), .ref (G.1 (σ.2.2.2.2 701)), .ref (G.1 703), .ref (G.1 704), .ref (G.1 705), .int (σ.1 705)]
def cF_rk (G : gAd) (σ : CS) : List Value := [.int (σ.1 800)]
def cF_th (G : gAd) (σ : CS) : List Value := [.ref (G.1 901), .ref (G.1 902), .ref (G.1 903), .ref (G.1 904), .int (σ.1 904)]
def cF_fr (G : gAd) (σ : CS) : List Value := [.ref (G.1 1001), .ref (G.1 1002), .ref (G.1 1003), .ref (G.1 1004), .ref (G.1 1005), .ref (G.1 1006), .ref (G.1 1007), .int (σ.1 1007)]
def cF_to (G : gAd) (σ : CS) : List Value := [.ref (G.1 1101), .ref (G.1 1102), .ref (G.1 1103), .ref (G.1 1104), .int (σ.1 1104), .int (σ.1 1105), .int (σ.1 1106), .int (σ.1 1107), .int (σ.1 1108)]
def cF_ru (G : gAd) (σ : CS) : List Value := [.ref (G.1 1300), .ref (G.1 1100), .ref (G.1 (σ.2.2.2.2 1202)), .ref (G.1 1204), .ref (G.1 1205), .ref (G.1 1206), .ref (G.1 1207), .ref (G.1 1208), .int (σ.1 1208), .ref (G.1 1210), .int (σ.1 1210), .ref (G.1 1212), .int (σ.1 1212)]
def cF_wo (G : gAd) (σ : CS) : List Value := [.ref (G.1 800), .ref (G.1 900), .ref (G.1 1000), .ref (G.1 1304), .long (σ.2.1 1304), .long (σ.2.1 1305), .long (σ.2.1 1306), .long (σ.2.1 1307), .long (σ.2.1 1308), .long (σ.2.1 1309)]
def cW (G : gAd) (σ : CS) : va_W := [(G.1 200, .inr (10, cF_ft G σ)), (G.1 201, .inl (G.2 2, 3000, .inl (σ.2.2.1 200))), (G.1 216, .inl (G.2 0, 21, .inl (σ.2.2.1 215))), (G.1 300, .inr (0, cF_fg G σ)), (G.1 301, .inl (G.2 2, 3000, .inl (σ.2.2.1 300))), (G.1 303, .inl (G.2 0, 250, .inl (σ.2.2.1 302))), (G.1 304, .inl (G.2 0, 250, .inl (σ.2.2.1 303))), (G.1 305, .inl (G.2 0, 250, .inl (σ.2.2.1 304))), (G.1 306, .inl (G.2 0, 250, .inl (σ.2.2.1 305))), (G.1 307, .inl (G.2 0, 250, .inl (σ.2.2.1 306))), (G.1 308, .inl (G.2 0, 250, .inl (σ.2.2.1 307))), (G.1 309, .inl (G.2 0, 250, .inl (σ.2.2.1 308))), (G.1 313, .inl (G.2 0, 260, .inl (σ.2.2.1 312))), (G.1 314, .inl (G.2 0, 13, .inl (σ.2.2.1 313))), (G.1 315, .inl (G.2 0, 12, .inl (σ.2.2.1 314))), (G.1 316, .inl (G.2 0, 12, .inl (σ.2.2.1 315))), (G.1 317, .inl (G.2 0, 12, .inl (σ.2.2.1 316))), (G.1 400, .inr (0, cF_sp G σ)), (G.1 401, .inl (G.2 2, 3000, .inl (σ.2.2.1 400))), (G.1 403, .inl (G.2 0, 250, .inl (σ.2.2.1 402))), (G.1 404, .inl (G.2 0, 250, .inl (σ.2.2.1 403))), (G.1 405, .inl (G.2 0, 250, .inl (σ.2.2.1 404))), (G.1 406, .inl (G.2 0, 250, .inl (σ.2.2.1 405))), (G.1 407, .inl (G.2 0, 250, .inl (σ.2.2.1 406))), (G.1 408, .inl (G.2 0, 250, .inl (σ.2.2.1 407))), (G.1 409, .inl (G.2 0, 250, .inl (σ.2.2.1 408))), (G.1 413, .inl (G.2 0, 260, .inl (σ.2.2.1 412))), (G.1 414, .inl (G.2 0, 13, .inl (σ.2.2.1 413))), (G.1 415, .inl (G.2 0, 12, .inl (σ.2.2.1 414))), (G.1 416, .inl (G.2 0, 12, .inl (σ.2.2.1 415))), (G.1 417, .inl (G.2 0, 12, .inl (σ.2.2.1 416))), (G.1 500, .inr (2, cF_ou G σ)), (G.1 501, .inl (G.2 2, 16000, .inl (σ.2.2.1 500))), (G.1 502, .inl (G.2 3, 20, .inl (σ.2.2.1 501))), (G.1 600, .inr (4, cF_rd G σ)), (G.1 700, .inr (3, cF_pr G σ)), (G.1 703, .inl (G.2 0, 250, .inl (σ.2.2.1 702))), (G.1 704, .inl (G.2 0, 250, .inl (σ.2.2.1 703))), (G.1 705, .inl (G.2 4, 250, .inl (σ.2.2.1 704))), (G.1 800, .inr (5, cF_rk G σ)), (G.1 900, .inr (7, cF_th G σ)), (G.1 901, .inl (G.2 0, 400, .inl (σ.2.2.1 900))), (G.1 902, .inl (G.2 0, 400, .inl (σ.2.2.1 901))), (G.1 903, .inl (G.2 1, 2800, .inr (.inl (σ.2.2.2.1 902)))), (G.1 904, .inl (G.2 0, 8000, .inl (σ.2.2.1 903))), (G.1 1000, .inr (1, cF_fr G σ)), (G.1 1001, .inl (G.2 4, 12, .inl (σ.2.2.1 1000))), (G.1 1002, .inl (G.2 1, 12, .inr (.inl (σ.2.2.2.1 1001)))), (G.1 1003, .inl (G.2 1, 12, .inr (.inl (σ.2.2.2.1 1002)))), (G.1 1004, .inl (G.2 4, 12, .inl (σ.2.2.1 1003))), (G.1 1005, .inl (G.2 1, 12, .inr (.inl (σ.2.2.2.1 1004)))), (G.1 1006, .inl (G.2 1, 12, .inr (.inl (σ.2.2.2.1 1005)))), (G.1 1007, .inl (G.2 0, 12, .inl (σ.2.2.1 1006))), (G.1 1100, .inr (8, cF_to G σ)), (G.1 1101, .inl (G.2 0, 40, .inl (σ.2.2.1 1100))), (G.1 1102, .inl (G.2 0, 40, .inl (σ.2.2.1 1101))), (G.1 1103, .inl (G.2 0, 12, .inl (σ.2.2.1 1102))), (G.1 1104, .inl (G.2 0, 12, .inl (σ.2.2.1 1103))), (G.1 1200, .inr (6, cF_ru G σ)), (G.1 1204, .inl (G.2 0, 401, .inl (σ.2.2.1 1203))), (G.1 1205, .inl (G.2 0, 401, .inl (σ.2.2.1 1204))), (G.1 1206, .inl (G.2 0, 401, .inl (σ.2.2.1 1205))), (G.1 1207, .inl (G.2 4, 401, .inl (σ.2.2.1 1206))), (G.1 1208, .inl (G.2 0, 401, .inl (σ.2.2.1 1207))), (G.1 1210, .inl (G.2 0, 401, .inl (σ.2.2.1 1209))), (G.1 1212, .inl (G.2 0, 180, .inl (σ.2.2.1 1211))), (G.1 1300, .inr (9, cF_wo G σ)), (G.1 1304, .inl (G.2 0, 3, .inl (σ.2.2.1 1303)))]
def cFree (G : gAd) : Nat → Prop := fun q => ∃ k, 200 ≤ k ∧ k < 1400 ∧ G.1 k = q
abbrev gCl : List vw_C := [(RX1, TX1, 18), (RX2, TX2, 8), (RX3, TX3, 3), (RX4, TX4, 6), (RX5, TX5, 9), (RX6, TX6, 1), (RX7, TX7, 13), (RX8, TX8, 5), (RX9, TX9, 9), (RX11, TX11, 10), (RX12, TX12, 17), (RX13, TX13, 104)]
set_option maxRecDepth 100000 in
theorem cIn_X1 : ∀ w ∈ u_ws RX1 TX1 18, w ∈ gTb := List.forall_mem_cons.mpr ⟨(gTb_1 (List.mem_of_getElem? (i := 89) rfl) rfl), List.forall_mem_cons.mpr ⟨(gTb_1 (List.mem_of_getElem? (i := 91) rfl) rfl), List.forall_mem_cons.mpr ⟨(gTb_1 (List.mem_of_getElem? (i := 93) rfl) rfl), List.forall_mem_cons.mpr ⟨(gTb_1 (List.mem_of_getElem? (i := 95) rfl) rfl), List.forall_mem_cons.mpr ⟨(gTb_1 (List.mem_of_getElem? (i := 97) rfl) rfl), List.forall_mem_cons.mpr ⟨(gTb_1 (List.mem_of_getElem? (i := 99) rfl) rfl), List.forall_mem_cons.mpr ⟨(gTb_1 (List.mem_of_getElem? (i := 101) rfl) rfl), List.forall_mem_cons.mpr ⟨(gTb_1 (List.mem_of_getElem? (i := 103) rfl) rfl), List.forall_mem_cons.mpr ⟨(gTb_1 (List.mem_of_getElem? (i := 105) rfl) rfl), List.forall_mem_cons.mpr ⟨(gTb_1 (List.mem_of_getElem? (i := 107) rfl) rfl), List.forall_mem_cons.mpr ⟨(gTb_1 (List.mem_of_getElem? (i := 109) rfl) rfl), List.forall_mem_cons.mpr ⟨(gTb_1 (List.mem_of_getElem? (i := 111) rfl) rfl), List.forall_mem_cons.mpr ⟨(gTb_1 (List.mem_of_getElem? (i := 113) rfl) rfl), List.forall_mem_cons.mpr ⟨(gTb_1 (List.mem_of_getElem? (i := 115) rfl) rfl), List.forall_mem_cons.mpr ⟨(gTb_1 (List.mem_of_getElem? (i := 117) rfl) rfl), List.forall_mem_cons.mpr ⟨(gTb_1 (List.mem_of_getElem? (i := 119) rfl) rfl), List.forall_mem_cons.mpr ⟨(gTb_1 (List.mem_of_getElem? (i := 121) rfl) rfl), List.forall_mem_cons.mpr ⟨(gTb_1 (List.mem_of_getElem? (i := 123) rfl) rfl), fun _ h => absurd h List.not_mem_nil⟩⟩⟩⟩⟩⟩⟩⟩⟩⟩⟩⟩⟩⟩⟩⟩⟩⟩
set_option maxRecDepth 100000 in
theorem cIn_X2 : ∀ w ∈ u_ws RX2 TX2 8, w ∈ gTb := List.forall_mem_cons.mpr ⟨(gTb_2 (List.mem_of_getElem? (i := 1) rfl) rfl), List.forall_mem_cons.mpr ⟨(gTb_2 (List.mem_of_getElem? (i := 3) rfl) rfl), List.forall_mem_cons.mpr ⟨(gTb_2 (List.mem_of_getElem? (i := 5) rfl) rfl), List.forall_mem_cons.mpr ⟨(gTb_2 (List.mem_of_getElem? (i := 7) rfl) rfl), List.forall_mem_cons.mpr ⟨(gTb_2 (List.mem_of_getElem? (i := 9) rfl) rfl), List.forall_mem_cons.mpr ⟨(gTb_2 (List.mem_of_getElem? (i := 11) rfl) rfl), List.forall_mem_cons.mpr ⟨(gTb_2 (List.mem_of_getElem? (i := 13) rfl) rfl), List.forall_mem_cons.mpr ⟨(gTb_2 (List.mem_of_getElem? (i := 15) rfl) rfl), fun _ h => absurd h List.not_mem_nil⟩⟩⟩⟩⟩⟩⟩⟩
set_option maxRecDepth 100000 in
theorem cIn_X3 : ∀ w ∈ u_ws RX3 TX3 3, w ∈ gTb := List.forall_mem_cons.mpr ⟨(gTb_1 (List.mem_of_getElem? (i := 47) rfl) rfl), List.forall_mem_cons.mpr ⟨(gTb_1 (List.mem_of_getElem? (i := 49) rfl) rfl), List.forall_mem_cons.mpr ⟨(gTb_1 (List.mem_of_getElem? (i := 51) rfl) rfl), fun _ h => absurd h List.not_mem_nil⟩⟩⟩
set_option maxRecDepth 100000 in
theorem cIn_X4 : ∀ w ∈ u_ws RX4 TX4 6, w ∈ gTb := List.forall_mem_cons.mpr ⟨(gTb_1 (List.mem_of_getElem? (i := 174) rfl) rfl), List.forall_mem_cons.mpr ⟨(gTb_1 (List.mem_of_getElem? (i := 176) rfl) rfl), List.forall_mem_cons.mpr ⟨(gTb_1 (List.mem_of_getElem? (i := 178) rfl) rfl), List.forall_mem_cons.mpr ⟨(gTb_1 (List.mem_of_getElem? (i := 180) rfl) rfl), List.forall_mem_cons.mpr ⟨(gTb_1 (List.mem_of_getElem? (i := 182) rfl) rfl), List.forall_mem_cons.mpr ⟨(gTb_1 (List.mem_of_getElem? (i := 184) rfl) rfl), fun _ h => absurd h List.not_mem_nil⟩⟩⟩⟩⟩⟩
set_option maxRecDepth 100000 in
theorem cIn_X5 : ∀ w ∈ u_ws RX5 TX5 9, w ∈ gTb := List.forall_mem_cons.mpr ⟨(gTb_1 (List.mem_of_getElem? (i := 143) rfl) rfl), List.forall_mem_cons.mpr ⟨(gTb_1 (List.mem_of_getElem? (i := 145) rfl) rfl), List.forall_mem_cons.mpr ⟨(gTb_1 (List.mem_of_getElem? (i := 147) rfl) rfl), List.forall_mem_cons.mpr ⟨(gTb_1 (List.mem_of_getElem? (i := 149) rfl) rfl), List.forall_mem_cons.mpr ⟨(gTb_1 (List.mem_of_getElem? (i := 151) rfl) rfl), List.forall_mem_cons.mpr ⟨(gTb_1 (List.mem_of_getElem? (i := 153) rfl) rfl), List.forall_mem_cons.mpr ⟨(gTb_1 (List.mem_of_getElem? (i := 155) rfl) rfl), List.forall_mem_cons.mpr ⟨(gTb_1 (List.mem_of_getElem? (i := 157) rfl) rfl), List.forall_mem_cons.mpr ⟨(gTb_1 (List.mem_of_getElem? (i := 159) rfl) rfl), fun _ h => absurd h List.not_mem_nil⟩⟩⟩⟩⟩⟩⟩⟩⟩
set_option maxRecDepth 100000 in
theorem cIn_X6 : ∀ w ∈ u_ws RX6 TX6 1, w ∈ gTb := List.forall_mem_cons.mpr ⟨(gTb_1 (List.mem_of_getElem? (i := 198) rfl) rfl), fun _ h => absurd h List.not_mem_nil⟩
set_option maxRecDepth 100000 in
theorem cIn_X7 : ∀ w ∈ u_ws RX7 TX7 13, w ∈ gTb := List.forall_mem_cons.mpr ⟨(gTb_2 (List.mem_of_getElem? (i := 117) rfl) rfl), List.forall_mem_cons.mpr ⟨(gTb_2 (List.mem_of_getElem? (i := 119) rfl) rfl), List.forall_mem_cons.mpr ⟨(gTb_2 (List.mem_of_getElem? (i := 121) rfl) rfl), List.forall_mem_cons.mpr ⟨(gTb_2 (List.mem_of_getElem? (i := 123) rfl) rfl), List.forall_mem_cons.mpr ⟨(gTb_2 (List.mem_of_getElem? (i := 125) rfl) rfl), List.forall_mem_cons.mpr ⟨(gTb_2 (List.mem_of_getElem? (i := 127) rfl) rfl), List.forall_mem_cons.mpr ⟨(gTb_2 (List.mem_of_getElem? (i := 129) rfl) rfl), List.forall_mem_cons.mpr ⟨(gTb_2 (List.mem_of_getElem? (i := 131) rfl) rfl), List.forall_mem_cons.mpr ⟨(gTb_2 (List.mem_of_getElem? (i := 133) rfl) rfl), List.forall_mem_cons.mpr ⟨(gTb_2 (List.mem_of_getElem? (i := 135) rfl) rfl), List.forall_mem_cons.mpr ⟨(gTb_2 (List.mem_of_getElem? (i := 137) rfl) rfl), List.forall_mem_cons.mpr ⟨(gTb_2 (List.mem_of_getElem? (i := 139) rfl) rfl), List.forall_mem_cons.mpr ⟨(gTb_2 (List.mem_of_getElem? (i := 141) rfl) rfl), fun _ h => absurd h List.not_mem_nil⟩⟩⟩⟩⟩⟩⟩⟩⟩⟩⟩⟩⟩
set_option maxRecDepth 100000 in
theorem cIn_X8 : ∀ w ∈ u_ws RX8 TX8 5, w ∈ gTb := List.forall_mem_cons.mpr ⟨(gTb_1 (List.mem_of_getElem? (i := 212) rfl) rfl), List.forall_mem_cons.mpr ⟨(gTb_1 (List.mem_of_getElem? (i := 214) rfl) rfl), List.forall_mem_cons.mpr ⟨(gTb_1 (List.mem_of_getElem? (i := 216) rfl) rfl), List.forall_mem_cons.mpr ⟨(gTb_1 (List.mem_of_getElem? (i := 218) rfl) rfl), List.forall_mem_cons.mpr ⟨(gTb_1 (List.mem_of_getElem? (i := 220) rfl) rfl), fun _ h => absurd h List.not_mem_nil⟩⟩⟩⟩⟩
set_option maxRecDepth 100000 in
theorem cIn_X9 : ∀ w ∈ u_ws RX9 TX9 9, w ∈ gTb := List.forall_mem_cons.mpr ⟨(gTb_2 (List.mem_of_getElem? (i := 39) rfl) rfl), List.forall_mem_cons.mpr ⟨(gTb_2 (List.mem_of_getElem? (i := 41) rfl) rfl), List.forall_mem_cons.mpr ⟨(gTb_2 (List.mem_of_getElem? (i := 43) rfl) rfl), List.forall_mem_cons.mpr ⟨(gTb_2 (List.mem_of_getElem? (i := 45) rfl) rfl), List.forall_mem_cons.mpr ⟨(gTb_2 (List.mem_of_getElem? (i := 47) rfl) rfl), List.forall_mem_cons.mpr ⟨(gTb_2 (List.mem_of_getElem? (i := 49) rfl) rfl), List.forall_mem_cons.mpr ⟨(gTb_2 (List.mem_of_getElem? (i := 51) rfl) rfl), List.forall_mem_cons.mpr ⟨(gTb_2 (List.mem_of_getElem? (i := 53) rfl) rfl), List.forall_mem_cons.mpr ⟨(gTb_2 (List.mem_of_getElem? (i := 55) rfl) rfl), fun _ h => absurd h List.not_mem_nil⟩⟩⟩⟩⟩⟩⟩⟩⟩
set_option maxRecDepth 100000 in
theorem cIn_X11 : ∀ w ∈ u_ws RX11 TX11 10, w ∈ gTb := List.forall_mem_cons.mpr ⟨(gTb_2 (List.mem_of_getElem? (i := 79) rfl) rfl), List.forall_mem_cons.mpr ⟨(gTb_2 (List.mem_of_getElem? (i := 81) rfl) rfl), List.forall_mem_cons.mpr ⟨(gTb_2 (List.mem_of_getElem? (i := 83) rfl) rfl), List.forall_mem_cons.mpr ⟨(gTb_2 (List.mem_of_getElem? (i := 85) rfl) rfl), List.forall_mem_cons.mpr ⟨(gTb_2 (List.mem_of_getElem? (i := 87) rfl) rfl), List.forall_mem_cons.mpr ⟨(gTb_2 (List.mem_of_getElem? (i := 89) rfl) rfl), List.forall_mem_cons.mpr ⟨(gTb_2 (List.mem_of_getElem? (i := 91) rfl) rfl), List.forall_mem_cons.mpr ⟨(gTb_2 (List.mem_of_getElem? (i := 93) rfl) rfl), List.forall_mem_cons.mpr ⟨(gTb_2 (List.mem_of_getElem? (i := 95) rfl) rfl), List.forall_mem_cons.mpr ⟨(gTb_2 (List.mem_of_getElem? (i := 97) rfl) rfl), fun _ h => absurd h List.not_mem_nil⟩⟩⟩⟩⟩⟩⟩⟩⟩⟩
set_option maxRecDepth 100000 in
theorem cIn_X12 : ∀ w ∈ u_ws RX12 TX12 17, w ∈ gTb := List.forall_mem_cons.mpr ⟨(gTb_2 (List.mem_of_getElem? (i := 161) rfl) rfl), List.forall_mem_cons.mpr ⟨(gTb_2 (List.mem_of_getElem? (i := 163) rfl) rfl), List.forall_mem_cons.mpr ⟨(gTb_2 (List.mem_of_getElem? (i := 165) rfl) rfl), List.forall_mem_cons.mpr ⟨(gTb_2 (List.mem_of_getElem? (i := 167) rfl) rfl), List.forall_mem_cons.mpr ⟨(gTb_2 (List.mem_of_getElem? (i := 169) rfl) rfl), List.forall_mem_cons.mpr ⟨(gTb_2 (List.mem_of_getElem? (i := 171) rfl) rfl), List.forall_mem_cons.mpr ⟨(gTb_2 (List.mem_of_getElem? (i := 173) rfl) rfl), List.forall_mem_cons.mpr ⟨(gTb_2 (List.mem_of_getElem? (i := 175) rfl) rfl), List.forall_mem_cons.mpr ⟨(gTb_2 (List.mem_of_getElem? (i := 177) rfl) rfl), List.forall_mem_cons.mpr ⟨(gTb_2 (List.mem_of_getElem? (i := 179) rfl) rfl), List.forall_mem_cons.mpr ⟨(gTb_2 (List.mem_of_getElem? (i := 181) rfl) rfl), List.forall_mem_cons.mpr ⟨(gTb_2 (List.mem_of_getElem? (i := 183) rfl) rfl), List.forall_mem_cons.mpr ⟨(gTb_2 (List.mem_of_getElem? (i := 185) rfl) rfl), List.forall_mem_cons.mpr ⟨(gTb_2 (List.mem_of_getElem? (i := 187) rfl) rfl), List.forall_mem_cons.mpr ⟨(gTb_2 (List.mem_of_getElem? (i := 189) rfl) rfl), List.forall_mem_cons.mpr ⟨(gTb_2 (List.mem_of_getElem? (i := 191) rfl) rfl), List.forall_mem_cons.mpr ⟨(gTb_2 (List.mem_of_getElem? (i := 193) rfl) rfl), fun _ h => absurd h List.not_mem_nil⟩⟩⟩⟩⟩⟩⟩⟩⟩⟩⟩⟩⟩⟩⟩⟩⟩
/-- links across the nest -/
def cNest : List Cond := [Cond.methodLinkNest "FigureTexts" 19 ⟨"FigureTexts$Out", "<init>", "()V"⟩ "FigureTexts", Cond.methodLinkNest "FigureTexts" 26 ⟨"FigureTexts$Figure", "<init>", "()V"⟩ "FigureTexts", Cond.methodLinkNest "FigureTexts" 61 ⟨"FigureTexts$Reckoner", "<init>", "()V"⟩ "FigureTexts", Cond.methodLinkNest "FigureTexts" 68 ⟨"FigureTexts$Things", "<init>", "()V"⟩ "FigureTexts", Cond.methodLinkNest "FigureTexts" 75 ⟨"FigureTexts$Frees", "<init>", "()V"⟩ "FigureTexts", Cond.methodLinkNest "FigureTexts" 82 ⟨"FigureTexts$Told", "<init>", "()V"⟩ "FigureTexts", Cond.fieldLinkNest "FigureTexts$Reader" 108 "FigureTexts" "TOOLS" "[LFigureTexts$Tool;" "FigureTexts", Cond.methodLinkNest "FigureTexts$Figure" 74 ⟨"FigureTexts", "inside", "(II)Z"⟩ "FigureTexts", Cond.methodLinkNest "FigureTexts$Reader" 223 ⟨"FigureTexts", "inside", "(II)Z"⟩ "FigureTexts", Cond.methodLinkNest "FigureTexts$Frees" 39 ⟨"FigureTexts", "inside", "(II)Z"⟩ "FigureTexts", Cond.methodLinkNest "FigureTexts$Runner" 92 ⟨"FigureTexts", "inside", "(II)Z"⟩ "FigureTexts", Cond.methodLinkNest "FigureTexts$Things" 29 ⟨"FigureTexts", "inside", "(II)Z"⟩ "FigureTexts", Cond.methodLinkNest "FigureTexts$Told" 41 ⟨"FigureTexts", "inside", "(II)Z"⟩ "FigureTexts", Cond.fieldLinkNest "FigureTexts$Runner" 113 "FigureTexts" "TOOLS" "[LFigureTexts$Tool;" "FigureTexts", Cond.methodLinkNest "FigureTexts$Workshop" 69 ⟨"FigureTexts", "inside", "(II)Z"⟩ "FigureTexts", Cond.fieldLinkNest "FigureTexts$Things" 63 "FigureTexts" "PARTS_OF_KIND" "[I" "FigureTexts", Cond.methodLinkNest "FigureTexts$Printer" 154 ⟨"FigureTexts", "inside", "(II)Z"⟩ "FigureTexts", Cond.methodLinkNest "FigureTexts$Out" 23 ⟨"FigureTexts", "inside", "(II)Z"⟩ "FigureTexts"]
/-- the texts of the String constants -/
def sTx : List (List Int32) := [[59, 44, 61, 60, 43, 45, 42, 47, 40, 41, 91, 93, 123, 125], [109, 97, 99, 114, 111], [105, 102], [101, 108, 115, 101], [116, 105, 109, 101, 115], [115, 116, 97, 116, 101], [100, 114, 97, 119], [103, 105, 118, 101], [109, 97, 99, 114, 111, 32], [44, 32], [41, 32, 123, 10], [32, 32], [32, 61, 32], [59, 10], [93, 32, 61, 32], [115, 116, 97, 116, 101, 32], [100, 114, 97, 119, 32], [103, 105, 118, 101, 32], [105, 102, 32], [116, 105, 109, 101, 115, 32], [32, 123, 10], [125, 32, 101, 108, 115, 101, 32, 123, 10], [125, 10], [110, 111, 32, 115, 117, 99, 104, 32, 68, 82, 65, 87, 78, 32, 84, 72, 73, 78, 71], [110, 111, 32, 115, 117, 99, 104, 32, 112, 97, 114, 116, 32, 111, 114, 32, 115, 105, 100, 101], [110, 111, 32, 115, 117, 99, 104, 32, 83, 84, 65, 84, 69, 68], [44, 32], [84, 72, 69, 32, 79, 85, 84, 32, 104, 97, 115, 32, 110, 111, 32, 115, 117, 99, 104, 32, 98, 121, 116, 101], [114, 105, 110, 103], [80, 80, 80], [99, 105, 114, 99, 108, 101], [80, 80], [112, 111, 105, 110, 116, 115], [87], [108, 105, 110, 101, 115], [110, 117, 109, 98, 101, 114, 115], [120], [80], [121], [115, 108, 111, 112, 101], [76], [99, 101, 110, 116, 114, 101], [67], [115, 113, 117, 97, 114, 101], [104, 97, 108, 102], [83], [115, 105, 122, 101], [82], [110, 111, 110, 101], [69], [107, 105, 110, 100], [65], [114, 111, 119], [112, 111, 105, 110, 116], [78, 78], [102, 114, 101, 101], [108, 105, 110, 101], [115, 101, 103], [109, 105, 100], [102, 111, 111, 116], [80, 76], [109, 105, 114, 114, 111, 114], [116, 117, 114, 110], [112, 97, 114], [112, 101, 114, 112], [109, 101, 101, 116], [76, 76], [114, 111, 117, 110, 100], [80, 78], [112, 111, 119, 101, 114], [80, 67], [112, 111, 108, 97, 114], [105, 110, 118, 101, 114, 116], [100, 105, 115, 116], [101, 110, 100], [83, 78], [111, 110], [80, 70], [105, 115], [65, 65], [102, 108, 97, 116], [114, 105, 103, 104, 116], [115, 99, 97, 108, 101], [80, 80, 78], [97, 114, 101, 97], [99, 117, 116], [76, 67, 78]]
def cStr : List (String × Nat × String × Nat) := [("FigureTexts$Reader", 81, ";,=<+-*/()[]{}", 0), ("FigureTexts$Reader", 43, "macro", 1), ("FigureTexts$Reader", 92, "if", 2), ("FigureTexts$Reader", 94, "else", 3), ("FigureTexts$Reader", 96, "times", 4), ("FigureTexts$Reader", 98, "state", 5), ("FigureTexts$Reader", 100, "draw", 6), ("FigureTexts$Reader", 102, "give", 7), ("FigureTexts$Printer", 65, "macro ", 8), ("FigureTexts$Printer", 80, ", ", 9), ("FigureTexts$Printer", 86, ") {\n", 10), ("FigureTexts$Printer", 91, "  ", 11), ("FigureTexts$Printer", 108, " = ", 12), ("FigureTexts$Printer", 131, ";\n", 13), ("FigureTexts$Printer", 120, "] = ", 14), ("FigureTexts$Printer", 122, "state ", 15), ("FigureTexts$Printer", 124, "draw ", 16), ("FigureTexts$Printer", 126, "give ", 17), ("FigureTexts$Printer", 133, "if ", 18), ("FigureTexts$Printer", 135, "times ", 19), ("FigureTexts$Printer", 137, " {\n", 20), ("FigureTexts$Printer", 145, "} else {\n", 21), ("FigureTexts$Printer", 56, "}\n", 22), ("FigureTexts", 197, "no such DRAWN THING", 23), ("FigureTexts", 211, "no such part or side", 24), ("FigureTexts", 227, "no such STATED", 25), ("FigureTexts", 290, ", ", 26), ("FigureTexts", 255, "THE OUT has no such byte", 27), ("FigureTexts$Tool", 301, "ring", 28), ("FigureTexts$Tool", 303, "PPP", 29), ("FigureTexts$Tool", 253, "circle", 30), ("FigureTexts$Tool", 222, "PP", 31), ("FigureTexts$Tool", 203, "points", 32), ("FigureTexts$Tool", 200, "W", 33), ("FigureTexts$Tool", 206, "lines", 34), ("FigureTexts$Tool", 209, "numbers", 35), ("FigureTexts$Tool", 154, "x", 36), ("FigureTexts$Tool", 156, "P", 37), ("FigureTexts$Tool", 162, "y", 38), ("FigureTexts$Tool", 165, "slope", 39), ("FigureTexts$Tool", 167, "L", 40), ("FigureTexts$Tool", 170, "centre", 41), ("FigureTexts$Tool", 172, "C", 42), ("FigureTexts$Tool", 175, "square", 43), ("FigureTexts$Tool", 178, "half", 44), ("FigureTexts$Tool", 180, "S", 45), ("FigureTexts$Tool", 183, "size", 46), ("FigureTexts$Tool", 185, "R", 47), ("FigureTexts$Tool", 188, "none", 48), ("FigureTexts$Tool", 190, "E", 49), ("FigureTexts$Tool", 193, "kind", 50), ("FigureTexts$Tool", 195, "A", 51), ("FigureTexts$Tool", 198, "row", 52), ("FigureTexts$Tool", 212, "point", 53), ("FigureTexts$Tool", 214, "NN", 54), ("FigureTexts$Tool", 217, "free", 55), ("FigureTexts$Tool", 220, "line", 56), ("FigureTexts$Tool", 225, "seg", 57), ("FigureTexts$Tool", 228, "mid", 58), ("FigureTexts$Tool", 231, "foot", 59), ("FigureTexts$Tool", 233, "PL", 60), ("FigureTexts$Tool", 236, "mirror", 61), ("FigureTexts$Tool", 239, "turn", 62), ("FigureTexts$Tool", 242, "par", 63), ("FigureTexts$Tool", 245, "perp", 64), ("FigureTexts$Tool", 248, "meet", 65), ("FigureTexts$Tool", 250, "LL", 66), ("FigureTexts$Tool", 256, "round", 67), ("FigureTexts$Tool", 258, "PN", 68), ("FigureTexts$Tool", 261, "power", 69), ("FigureTexts$Tool", 263, "PC", 70), ("FigureTexts$Tool", 266, "polar", 71), ("FigureTexts$Tool", 269, "invert", 72), ("FigureTexts$Tool", 272, "dist", 73), ("FigureTexts$Tool", 275, "end", 74), ("FigureTexts$Tool", 277, "SN", 75), ("FigureTexts$Tool", 280, "on", 76), ("FigureTexts$Tool", 282, "PF", 77), ("FigureTexts$Tool", 285, "is", 78), ("FigureTexts$Tool", 287, "AA", 79), ("FigureTexts$Tool", 290, "flat", 80), ("FigureTexts$Tool", 293, "right", 81), ("FigureTexts$Tool", 296, "scale", 82), ("FigureTexts$Tool", 298, "PPN", 83), ("FigureTexts$Tool", 306, "area", 84), ("FigureTexts$Tool", 309, "cut", 85), ("FigureTexts$Tool", 311, "LCN", 86)]
def tWord : List Nat := [36, 38, 39, 41, 43, 44, 46, 48, 50, 52, 32, 34, 35, 53, 55, 56, 57, 58, 59, 61, 62, 63, 64, 65, 30, 67, 69, 71, 72, 73, 74, 76, 78, 80, 81, 82, 28, 84, 85]
def tWant : List Nat := [37, 37, 40, 42, 42, 45, 47, 49, 51, 33, 33, 33, 33, 54, 54, 31, 31, 31, 60, 60, 31, 60, 60, 66, 31, 68, 70, 70, 70, 31, 75, 77, 79, 66, 66, 83, 29, 29, 86]
def tMake : List Int32 := [0, 0, 0, 1, 0, 3, 0, 0, 0, 6, 6, 6, 6, 1, 2, 3, 4, 1, 1, 1, 1, 3, 3, 1, 5, 5, 0, 3, 1, 0, 1, 0, 0, 0, 0, 1, 5, 0, 1]
def swMap : List Int32 := [1, 2, 5, 14, 4, 27, 3, 6, 0, 0, 0, 0, 0, 13, 0, 23, 24, 16, 18, 19, 20, 25, 26, 17, 0, 0, 9, 0, 22, 7, 15, 10, 11, 12, 0, 21, 0, 8, 0]
def pOfK : List Int32 := [1, 2, 2, 3, 7, 3, 2]
def tUsed : List (String × Nat) := [("POINTS", 10), ("LINES", 11), ("NUMBERS", 12), ("CIRCLE", 24), ("RING", 36)]
abbrev sL (i : Nat) : Nat := (sTx.getD i []).length
abbrev sB (i j : Nat) : Int32 := (sTx.getD i []).getD j 0
abbrev tD : String := "LFigureTexts$Tool;"
/-- what is given of Strings, of the enum's constants, of static fields and rows -/
def zS (G : gAd) (A : Nat → Prop) (U : State) (H : Heap) : Prop := ∀ i : Nat, i < 87 → va_O "java/lang/String" (G.1 (5000 + i)) A U H ∧ va_OF "java/lang/String" "coder" "B" (.int 0) (G.1 (5000 + i)) A U H ∧ va_OF "java/lang/String" "value" "[B" (.ref (G.1 (6000 + i))) (G.1 (5000 + i)) A U H ∧ va_T .byte (G.1 (6000 + i)) (sL i) (fun j => .int (sB i j)) A U H
def zT (G : gAd) (A : Nat → Prop) (U : State) (H : Heap) : Prop := ∀ t : Nat, t < 39 → va_O "FigureTexts$Tool" (G.1 (7000 + t)) A U H ∧ va_OF "java/lang/Enum" "ordinal" "I" (.int (nI t)) (G.1 (7000 + t)) A U H ∧ va_OF "FigureTexts$Tool" "word" "Ljava/lang/String;" (.ref (G.1 (5000 + tWord.getD t 0))) (G.1 (7000 + t)) A U H ∧ va_OF "FigureTexts$Tool" "wants" "Ljava/lang/String;" (.ref (G.1 (5000 + tWant.getD t 0))) (G.1 (7000 + t)) A U H ∧ va_OF "FigureTexts$Tool" "makes" "I" (.int (tMake.getD t 0)) (G.1 (7000 + t)) A U H
def zV (G : gAd) (A : Nat → Prop) (U : State) (H : Heap) : Prop := va_Z "java/lang/String" "COMPACT_STRINGS" "Z" (.int 1) A U H ∧ va_Zq "jdk/internal/util/Preconditions" "SIOOBE_FORMATTER" "Ljava/util/function/BiFunction;" A U H ∧ va_Z "FigureTexts" "TOOLS" "[LFigureTexts$Tool;" (.ref (G.1 8000)) A U H ∧ va_T (.object "FigureTexts$Tool") (G.1 8000) 39 (fun j => .ref (G.1 (7000 + j))) A U H ∧ va_Z "FigureTexts$1" "$SwitchMap$FigureTexts$Tool" "[I" (.ref (G.1 8001)) A U H ∧ va_T .int (G.1 8001) 39 (fun j => .int (swMap.getD j 0)) A U H ∧ va_Z "FigureTexts" "PARTS_OF_KIND" "[I" (.ref (G.1 8002)) A U H ∧ va_T .int (G.1 8002) 7 (fun j => .int (pOfK.getD j 0)) A U H ∧ ∀ q ∈ tUsed, va_Z "FigureTexts$Tool" q.1 tD (.ref (G.1 (7000 + q.2))) A U H
theorem zS.on {G : gAd} {A : Nat → Prop} {s U : State} {H H1 : Heap} (hvm : s.vm.Alike U.vm) (hq : ∀ a : Nat, a < H.size → ¬ A a → H1[a]? = H[a]?) (h : zS G A s H) : zS G A U H1 := fun i hi => ⟨((h i hi).1.kept hq).moved hvm, ((h i hi).2.1.kept hq).moved hvm, ((h i hi).2.2.1.kept hq).moved hvm, ((h i hi).2.2.2.kept hq).moved hvm⟩
theorem zT.on {G : gAd} {A : Nat → Prop} {s U : State} {H H1 : Heap} (hvm : s.vm.Alike U.vm) (hq : ∀ a : Nat, a < H.size → ¬ A a → H1[a]? = H[a]?) (h : zT G A s H) : zT G A U H1 := fun i hi => ⟨((h i hi).1.kept hq).moved hvm, ((h i hi).2.1.kept hq).moved hvm, ((h i hi).2.2.1.kept hq).moved hvm, ((h i hi).2.2.2.1.kept hq).moved hvm, ((h i hi).2.2.2.2.kept hq).moved hvm⟩
theorem zV.on {G : gAd} {A : Nat → Prop} {s U : State} {H H1 : Heap} (hvm : s.vm.Alike U.vm) (hq : ∀ a : Nat, a < H.size → ¬ A a → H1[a]? = H[a]?) (h : zV G A s H) : zV G A U H1 := ⟨(h.1.kept hq).moved hvm, (h.2.1.kept hq).moved hvm, (h.2.2.1.kept hq).moved hvm, (h.2.2.2.1.kept hq).moved hvm, (h.2.2.2.2.1.kept hq).moved hvm, (h.2.2.2.2.2.1.kept hq).moved hvm, (h.2.2.2.2.2.2.1.kept hq).moved hvm, (h.2.2.2.2.2.2.2.1.kept hq).moved hvm, fun q hm => ((h.2.2.2.2.2.2.2.2 q hm).kept hq).moved hvm⟩
def xBad : List Cond := [.castable ioobe ioobe, .declares ⟨"java/lang/RuntimeException", "<init>", "(Ljava/lang/String;)V"⟩, .declares ⟨"java/lang/Exception", "<init>", "(Ljava/lang/String;)V"⟩, .declares ⟨"java/lang/Throwable", "<init>", "(Ljava/lang/String;)V"⟩, .declares ⟨"java/lang/RuntimeException", "<init>", "()V"⟩, .declares ⟨"java/lang/Exception", "<init>", "()V"⟩, .declares ⟨"java/lang/Throwable", "<init>", "()V"⟩]
theorem xBad_warm {s U : State} (hW : s.WarmedH U.vm) {w : Cond} (hw : w ∈ xBad) (h : va_Nw w s) : va_Nw w U := by
  simp only [xBad, List.mem_cons, List.not_mem_nil, or_false] at hw
  rcases hw with rfl | rfl | rfl | rfl | rfl | rfl | rfl
  all_goals first | exact va_Nw.warmC hW h | exact va_Nw.warmD hW h
theorem xBad_tab {w : Cond} (hw : w ∈ xBad) : w.onTables = true := by
  simp only [xBad, List.mem_cons, List.not_mem_nil, or_false] at hw
  rcases hw with rfl | rfl | rfl | rfl | rfl | rfl | rfl
  all_goals rfl
def zX (A : Nat → Prop) (U : State) (H : Heap) : Prop := (∀ w ∈ xBad, va_Nw w U) ∧ vx_Zq Bundle.tN "UNASSIGNED_STACK" Bundle.steD A U H ∧ vx_Zq Bundle.tN "SUPPRESSED_SENTINEL" Bundle.listD A U H
def cZ (G : gAd) : State → Prop := fun U => ((∀ w ∈ cNest, va_Nw w U) ∧ zX (cFree G) U U.heap) ∧ (∀ q ∈ cStr, vk_R q.1 q.2.1 q.2.2.1 (G.1 (5000 + q.2.2.2)) U) ∧ zS G (cFree G) U U.heap ∧ zT G (cFree G) U U.heap ∧ zV G (cFree G) U U.heap
theorem cNest_warm {s U : State} (hW : s.WarmedH U.vm) {w : Cond} (hw : w ∈ cNest) (h : va_Nw w s) : va_Nw w U := by
  simp only [cNest, List.mem_cons, List.not_mem_nil, or_false] at hw
  rcases hw with rfl | rfl | rfl | rfl | rfl | rfl | rfl | rfl | rfl | rfl | rfl | rfl | rfl | rfl | rfl | rfl | rfl | rfl
  all_goals first | exact va_Nw.warmM hW h | exact va_Nw.warmF hW h
theorem cNest_tab {w : Cond} (hw : w ∈ cNest) : w.onTables = true := by
  simp only [cNest, List.mem_cons, List.not_mem_nil, or_false] at hw
  rcases hw with rfl | rfl | rfl | rfl | rfl | rfl | rfl | rfl | rfl | rfl | rfl | rfl | rfl | rfl | rfl | rfl | rfl | rfl
  all_goals rfl
theorem cZ_ok (G : gAd) : gZok (cFree G) (cZ G) :=
  ⟨fun U g mk a h => ⟨⟨fun w hw => va_Nw.same (cNest_tab hw) (show U.vm = (U.calling g mk a).vm from rfl) (h.1.1 w hw), fun w hw => va_Nw.same (xBad_tab hw) (show U.vm = (U.calling g mk a).vm from rfl) (h.1.2.1 w hw), vx_Zq.moved (Vm.Alike.refl U.vm) h.1.2.2.1, vx_Zq.moved (Vm.Alike.refl U.vm) h.1.2.2.2⟩, fun q hq => vk_R.same (show (U.calling g mk a).vm = U.vm from rfl) (h.2.1 q hq), zS.on (Vm.Alike.refl U.vm) (fun _ _ _ => rfl) h.2.2.1, zT.on (Vm.Alike.refl U.vm) (fun _ _ _ => rfl) h.2.2.2.1, zV.on (Vm.Alike.refl U.vm) (fun _ _ _ => rfl) h.2.2.2.2⟩,
   fun s U hW hF h => ⟨⟨fun w hw => cNest_warm hW hw (h.1.1 w hw), fun w hw => xBad_warm hW hw (h.1.2.1 w hw), (h.1.2.2.1.kept hF.2).moved hW.alike, (h.1.2.2.2.kept hF.2).moved hW.alike⟩, fun q hq => vk_R.warm hW (h.2.1 q hq), zS.on hW.alike hF.2 h.2.2.1, zT.on hW.alike hF.2 h.2.2.2.1, zV.on hW.alike hF.2 h.2.2.2.2⟩⟩
def cQ (G : gAd) (Q : CS → Option Value → Prop) : va_W → Option Value → Prop := fun ws' rv => ∃ σ' : CS, ws' = cW G σ' ∧ Q σ' rv
def pV (post : CS → Prop) : CS → Option Value → Prop := fun σ' rv => rv = none ∧ post σ'
def pI (post : CS → Int32 → Prop) : CS → Option Value → Prop := fun σ' rv => ∃ r : Int32, rv = some (.int r) ∧ post σ' r
def pL (post : CS → Int64 → Prop) : CS → Option Value → Prop := fun σ' rv => ∃ r : Int64, rv = some (.long r) ∧ post σ' r
def cMet (l : Launch) (D : va_G) (G : gAd) (y : MethodName) (code : ByteArray) (maxL : Nat) (ret : Option FieldType) (h : Nat) (av : List Value) (σ : CS) (Q : CS → Option Value → Prop) : Prop := gMet l D gCl (gTys G) (cFree G) (cZ G) y code maxL ret h av (cW G σ) (cQ G Q)
def cOK (E : gEnv) (l : Launch) (D : va_G) (G : gAd) (Q : CS → Option Value → Prop) (nL : Nat) : Prop := el E = l ∧ eD E = D ∧ eC E = gCl ∧ eT E = gTys G ∧ eA E = cFree G ∧ eZ E = cZ G ∧ eN E = nL ∧ eQ E = cQ G Q
theorem c_enter {own : String} {l : Launch} {D : va_G} {G : gAd} {y : MethodName} {code : ByteArray} {maxL : Nat} {ret : Option FieldType} {h : Nat} {av : List Value} {σ : CS} {Q : CS → Option Value → Prop}
    (hy : plainName y.cls = true) (hc : y.cls = own) (L0 : List (Nat × Value)) (hL : lv_args 0 av = L0) (hs : (lg_sl av).length ≤ maxL)
    (k : ∀ E : gEnv, gOK E code own ret h → cOK E l D G Q maxL → gFin E → GW E (cW G σ) 0 L0 []) : cMet l D G y code maxL ret h av σ Q :=
  g_enter (cZ_ok G) hy L0 hL hs (fun E hE h1 h2 h3 h4 h5 h6 h7 h8 hF => k E (by rw [hc] at hE; exact hE) ⟨h1, h2, h3, h4, h5, h6, h7, h8⟩ hF)
section CROWS
variable {E : gEnv} {l : Launch} {D : va_G} {G : gAd} {Q : CS → Option Value → Prop} {nL : Nat} {cc : ByteArray} {own : String} {idx : Nat} {ret : Option FieldType} {hgt : Nat} {σ : CS} {pc : Nat} {L : List (Nat × Value)} {st : List Value}
theorem c_iret {post : CS → Int32 → Prop} {v : Int32} (hE : gOK E cc own (some .int) hgt) (hm : cOK E l D G (pI post) nL) (hF : gFin E) (hd : decode cc pc = .ok (.ireturn, 1)) (h : post σ v) : GW E (cW G σ) pc L [.int v] :=
  r_iret hE hF hd (by rw [hm.2.2.2.2.2.2.2]; exact ⟨σ, rfl, v, rfl, h⟩)
theorem c_zret {post : CS → Int32 → Prop} {v : Int32} (hE : gOK E cc own (some .boolean) hgt) (hm : cOK E l D G (pI post) nL) (hF : gFin E) (hd : decode cc pc = .ok (.ireturn, 1)) (hb : isB v) (h : post σ v) : GW E (cW G σ) pc L [.int v] :=
  r_zret hE hF hd (isB_n hb) (by rw [hm.2.2.2.2.2.2.2]; exact ⟨σ, rfl, v, rfl, h⟩)
theorem c_lret {post : CS → Int64 → Prop} {v : Int64} (hE : gOK E cc own (some .long) hgt) (hm : cOK E l D G (pL post) nL) (hF : gFin E) (hd : decode cc pc = .ok (.lreturn, 1)) (h : post σ v) : GW E (cW G σ) pc L [.long v] :=
  r_lret hE hF hd (by rw [hm.2.2.2.2.2.2.2]; exact ⟨σ, rfl, v, rfl, h⟩)
theorem c_vret {post : CS → Prop} (hE : gOK E cc own none hgt) (hm : cOK E l D G (pV post) nL) (hF : gFin E) (hd : decode cc pc = .ok (.return_, 1)) (h : post σ) : GW E (cW G σ) pc L [] :=
  r_vret hE hF hd (by rw [hm.2.2.2.2.2.2.2]; exact ⟨σ, rfl, rfl, h⟩)
theorem c_met (hm : cOK E l D G Q nL) {y : MethodName} {code : ByteArray} {maxL : Nat} {ret' : Option FieldType} {h : Nat} {av : List Value} {Q' : CS → Option Value → Prop} (hM : cMet l D G y code maxL ret' h av σ Q') : gMet (el E) (eD E) (eC E) (eT E) (eA E) (eZ E) y code maxL ret' h av (cW G σ) (cQ G Q') := by
  rw [hm.1, hm.2.1, hm.2.2.1, hm.2.2.2.1, hm.2.2.2.2.1, hm.2.2.2.2.2.1]; exact hM
abbrev cRec (E : gEnv) (G : gAd) (σ : CS) (b : Nat) (y : MethodName) : Prop := ∃ (q0 ci : Nat) (fs : List Value) (q : vw_C), (cW G σ)[q0]? = some (G.1 b, .inr (ci, fs)) ∧ (eC E)[ci]? = some q ∧ q.1 = y.cls
theorem cr_ft (hm : cOK E l D G Q nL) {y : MethodName} (hy : y.cls = RX12) : cRec E G σ 200 y :=
  ⟨0, 10, cF_ft G σ, (RX12, TX12, 17), rfl, by rw [hm.2.2.1]; rfl, hy.symm⟩
theorem cr_fg (hm : cOK E l D G Q nL) {y : MethodName} (hy : y.cls = RX1) : cRec E G σ 300 y :=
  ⟨3, 0, cF_fg G σ, (RX1, TX1, 18), rfl, by rw [hm.2.2.1]; rfl, hy.symm⟩
theorem cr_sp (hm : cOK E l D G Q nL) {y : MethodName} (hy : y.cls = RX1) : cRec E G σ 400 y :=
  ⟨17, 0, cF_sp G σ, (RX1, TX1, 18), rfl, by rw [hm.2.2.1]; rfl, hy.symm⟩
theorem cr_ou (hm : cOK E l D G Q nL) {y : MethodName} (hy : y.cls = RX3) : cRec E G σ 500 y :=
  ⟨31, 2, cF_ou G σ, (RX3, TX3, 3), rfl, by rw [hm.2.2.1]; rfl, hy.symm⟩
theorem cr_rd (hm : cOK E l D G Q nL) {y : MethodName} (hy : y.cls = RX5) : cRec E G σ 600 y :=
  ⟨34, 4, cF_rd G σ, (RX5, TX5, 9), rfl, by rw [hm.2.2.1]; rfl, hy.symm⟩
theorem cr_pr (hm : cOK E l D G Q nL) {y : MethodName} (hy : y.cls = RX4) : cRec E G σ 700 y :=
  ⟨35, 3, cF_pr G σ, (RX4, TX4, 6), rfl, by rw [hm.2.2.1]; rfl, hy.symm⟩
theorem cr_rk (hm : cOK E l D G Q nL) {y : MethodName} (hy : y.cls = RX6) : cRec E G σ 800 y :=
  ⟨39, 5, cF_rk G σ, (RX6, TX6, 1), rfl, by rw [hm.2.2.1]; rfl, hy.symm⟩
theorem cr_th (hm : cOK E l D G Q nL) {y : MethodName} (hy : y.cls = RX8) : cRec E G σ 900 y :=
  ⟨40, 7, cF_th G σ, (RX8, TX8, 5), rfl, by rw [hm.2.2.1]; rfl, hy.symm⟩
theorem cr_fr (hm : cOK E l D G Q nL) {y : MethodName} (hy : y.cls = RX2) : cRec E G σ 1000 y :=
  ⟨45, 1, cF_fr G σ, (RX2, TX2, 8), rfl, by rw [hm.2.2.1]; rfl, hy.symm⟩
theorem cr_to (hm : cOK E l D G Q nL) {y : MethodName} (hy : y.cls = RX9) : cRec E G σ 1100 y :=
  ⟨53, 8, cF_to G σ, (RX9, TX9, 9), rfl, by rw [hm.2.2.1]; rfl, hy.symm⟩
theorem cr_ru (hm : cOK E l D G Q nL) {y : MethodName} (hy : y.cls = RX7) : cRec E G σ 1200 y :=
  ⟨58, 6, cF_ru G σ, (RX7, TX7, 13), rfl, by rw [hm.2.2.1]; rfl, hy.symm⟩
theorem cr_wo (hm : cOK E l D G Q nL) {y : MethodName} (hy : y.cls = RX11) : cRec E G σ 1300 y :=
  ⟨66, 9, cF_wo G σ, (RX11, TX11, 10), rfl, by rw [hm.2.2.1]; rfl, hy.symm⟩
theorem c_callVv {y : MethodName} {code : ByteArray} {maxL h n b : Nat} {ret' : Option FieldType} {post' : CS → Prop} (hE : gOK E cc own ret hgt) (hm : cOK E l D G Q nL) (As rest : List Value) (hc : gCalV own idx y code maxL ret' n) (hrec : cRec E G σ b y) (hM : cMet l D G y code maxL ret' h (.ref (G.1 b) :: As) σ (pV post')) (hh : h + 1 ≤ hgt) (hn : As.length = n) (hst : st = As.reverse ++ .ref (G.1 b) :: rest) (hW : (rest.map fun v => v.category).sum ≤ 24) (hd : decode cc pc = .ok (.invokevirtual idx, 3)) (k : ∀ (σ' : CS) , post' σ' → GW E (cW G σ') (pc + 3) L rest) : GW E (cW G σ) pc L st :=
  r_callV hE As rest hc (c_met hm hM) hrec hh hn hst hW hd (fun ws' rv q => by obtain ⟨σ', rfl, rfl, h⟩ := q; exact k σ' h)
theorem c_callVi {y : MethodName} {code : ByteArray} {maxL h n b : Nat} {ret' : Option FieldType} {post' : CS → Int32 → Prop} (hE : gOK E cc own ret hgt) (hm : cOK E l D G Q nL) (As rest : List Value) (hc : gCalV own idx y code maxL ret' n) (hrec : cRec E G σ b y) (hM : cMet l D G y code maxL ret' h (.ref (G.1 b) :: As) σ (pI post')) (hh : h + 1 ≤ hgt) (hn : As.length = n) (hst : st = As.reverse ++ .ref (G.1 b) :: rest) (hW : (rest.map fun v => v.category).sum ≤ 24) (hd : decode cc pc = .ok (.invokevirtual idx, 3)) (k : ∀ (σ' : CS) (r : Int32) , post' σ' r → GW E (cW G σ') (pc + 3) L (.int r :: rest)) : GW E (cW G σ) pc L st :=
  r_callV hE As rest hc (c_met hm hM) hrec hh hn hst hW hd (fun ws' rv q => by obtain ⟨σ', rfl, r, rfl, h⟩ := q; exact k σ' r h)
theorem c_callVl {y : MethodName} {code : ByteArray} {maxL h n b : Nat} {ret' : Option FieldType} {post' : CS → Int64 → Prop} (hE : gOK E cc own ret hgt) (hm : cOK E l D G Q nL) (As rest : List Value) (hc : gCalV own idx y code maxL ret' n) (hrec : cRec E G σ b y) (hM : cMet l D G y code maxL ret' h (.ref (G.1 b) :: As) σ (pL post')) (hh : h + 1 ≤ hgt) (hn : As.length = n) (hst : st = As.reverse ++ .ref (G.1 b) :: rest) (hW : (rest.map fun v => v.category).sum ≤ 24) (hd : decode cc pc = .ok (.invokevirtual idx, 3)) (k : ∀ (σ' : CS) (r : Int64) , post' σ' r → GW E (cW G σ') (pc + 3) L (.long r :: rest)) : GW E (cW G σ) pc L st :=
  r_callV hE As rest hc (c_met hm hM) hrec hh hn hst hW hd (fun ws' rv q => by obtain ⟨σ', rfl, r, rfl, h⟩ := q; exact k σ' r h)
theorem c_callSv {y : MethodName} {code : ByteArray} {maxL h n : Nat} {ret' : Option FieldType} {post' : CS → Prop} (hE : gOK E cc own ret hgt) (hm : cOK E l D G Q nL) (As rest : List Value) (hc : gCalS own idx y code maxL ret' n) (hM : cMet l D G y code maxL ret' h As σ (pV post')) (hh : h + 1 ≤ hgt) (hn : As.length = n) (hst : st = As.reverse ++ rest) (hW : (rest.map fun v => v.category).sum ≤ 24) (hd : decode cc pc = .ok (.invokestatic idx, 3)) (k : ∀ (σ' : CS) , post' σ' → GW E (cW G σ') (pc + 3) L rest) : GW E (cW G σ) pc L st :=
  r_callS hE As rest hc (c_met hm hM) hh hn hst hW hd (fun ws' rv q => by obtain ⟨σ', rfl, rfl, h⟩ := q; exact k σ' h)
theorem c_callSi {y : MethodName} {code : ByteArray} {maxL h n : Nat} {ret' : Option FieldType} {post' : CS → Int32 → Prop} (hE : gOK E cc own ret hgt) (hm : cOK E l D G Q nL) (As rest : List Value) (hc : gCalS own idx y code maxL ret' n) (hM : cMet l D G y code maxL ret' h As σ (pI post')) (hh : h + 1 ≤ hgt) (hn : As.length = n) (hst : st = As.reverse ++ rest) (hW : (rest.map fun v => v.category).sum ≤ 24) (hd : decode cc pc = .ok (.invokestatic idx, 3)) (k : ∀ (σ' : CS) (r : Int32) , post' σ' r → GW E (cW G σ') (pc + 3) L (.int r :: rest)) : GW E (cW G σ) pc L st :=
  r_callS hE As rest hc (c_met hm hM) hh hn hst hW hd (fun ws' rv q => by obtain ⟨σ', rfl, r, rfl, h⟩ := q; exact k σ' r h)
theorem c_callSl {y : MethodName} {code : ByteArray} {maxL h n : Nat} {ret' : Option FieldType} {post' : CS → Int64 → Prop} (hE : gOK E cc own ret hgt) (hm : cOK E l D G Q nL) (As rest : List Value) (hc : gCalS own idx y code maxL ret' n) (hM : cMet l D G y code maxL ret' h As σ (pL post')) (hh : h + 1 ≤ hgt) (hn : As.length = n) (hst : st = As.reverse ++ rest) (hW : (rest.map fun v => v.category).sum ≤ 24) (hd : decode cc pc = .ok (.invokestatic idx, 3)) (k : ∀ (σ' : CS) (r : Int64) , post' σ' r → GW E (cW G σ') (pc + 3) L (.long r :: rest)) : GW E (cW G σ) pc L st :=
  r_callS hE As rest hc (c_met hm hM) hh hn hst hW hd (fun ws' rv q => by obtain ⟨σ', rfl, r, rfl, h⟩ := q; exact k σ' r h)
theorem c_callSNv {y : MethodName} {code : ByteArray} {maxL h n : Nat} {ret' : Option FieldType} {post' : CS → Prop} (hE : gOK E cc own ret hgt) (hm : cOK E l D G Q nL) (As rest : List Value) {host : String} (hc : gCalN own idx y code maxL ret' n host) (hw : Cond.methodLinkNest own idx y host ∈ cNest) (hM : cMet l D G y code maxL ret' h As σ (pV post')) (hh : h + 1 ≤ hgt) (hn : As.length = n) (hst : st = As.reverse ++ rest) (hW : (rest.map fun v => v.category).sum ≤ 24) (hd : decode cc pc = .ok (.invokestatic idx, 3)) (k : ∀ (σ' : CS) , post' σ' → GW E (cW G σ') (pc + 3) L rest) : GW E (cW G σ) pc L st :=
  r_callSN hE As rest hc (c_met hm hM) (by have hz := hE.2.2.2.2.2.2.2.2.2.1; rw [hm.2.2.2.2.2.1] at hz; exact hz.1.1 _ hw) hh hn hst hW hd (fun ws' rv q => by obtain ⟨σ', rfl, rfl, h⟩ := q; exact k σ' h)
theorem c_callSNi {y : MethodName} {code : ByteArray} {maxL h n : Nat} {ret' : Option FieldType} {post' : CS → Int32 → Prop} (hE : gOK E cc own ret hgt) (hm : cOK E l D G Q nL) (As rest : List Value) {host : String} (hc : gCalN own idx y code maxL ret' n host) (hw : Cond.methodLinkNest own idx y host ∈ cNest) (hM : cMet l D G y code maxL ret' h As σ (pI post')) (hh : h + 1 ≤ hgt) (hn : As.length = n) (hst : st = As.reverse ++ rest) (hW : (rest.map fun v => v.category).sum ≤ 24) (hd : decode cc pc = .ok (.invokestatic idx, 3)) (k : ∀ (σ' : CS) (r : Int32) , post' σ' r → GW E (cW G σ') (pc + 3) L (.int r :: rest)) : GW E (cW G σ) pc L st :=
  r_callSN hE As rest hc (c_met hm hM) (by have hz := hE.2.2.2.2.2.2.2.2.2.1; rw [hm.2.2.2.2.2.1] at hz; exact hz.1.1 _ hw) hh hn hst hW hd (fun ws' rv q => by obtain ⟨σ', rfl, r, rfl, h⟩ := q; exact k σ' r h)
theorem c_callSNl {y : MethodName} {code : ByteArray} {maxL h n : Nat} {ret' : Option FieldType} {post' : CS → Int64 → Prop} (hE : gOK E cc own ret hgt) (hm : cOK E l D G Q nL) (As rest : List Value) {host : String} (hc : gCalN own idx y code maxL ret' n host) (hw : Cond.methodLinkNest own idx y host ∈ cNest) (hM : cMet l D G y code maxL ret' h As σ (pL post')) (hh : h + 1 ≤ hgt) (hn : As.length = n) (hst : st = As.reverse ++ rest) (hW : (rest.map fun v => v.category).sum ≤ 24) (hd : decode cc pc = .ok (.invokestatic idx, 3)) (k : ∀ (σ' : CS) (r : Int64) , post' σ' r → GW E (cW G σ') (pc + 3) L (.long r :: rest)) : GW E (cW G σ) pc L st :=
  r_callSN hE As rest hc (c_met hm hM) (by have hz := hE.2.2.2.2.2.2.2.2.2.1; rw [hm.2.2.2.2.2.1] at hz; exact hz.1.1 _ hw) hh hn hst hW hd (fun ws' rv q => by obtain ⟨σ', rfl, r, rfl, h⟩ := q; exact k σ' r h)
set_option maxRecDepth 20000 in
theorem cg_ft_tape (hE : gOK E cc own ret hgt) (hm : cOK E l D G Q nL) (hlk : Cond.fieldLink own idx "FigureTexts" "tape" "[B" ∈ gTb) (hd : decode cc pc = .ok (.getfield idx, 3)) (k : GW E (cW G σ) (pc + 3) L (.ref (G.1 201) :: st)) : GW E (cW G σ) pc L (.ref (G.1 200) :: st) := fun H locs ls hP hD hS hl =>
  va_get (D := eD E) (ci := 10) (fs := cF_ft G σ) (C := RX12) (T := TX12) (N := 17) hE.1 hE.2.1 hE.2.2.2.2.1 cIn_X12 hE.2.2.2.1 hE.2.2.2.2.2.2.2.2.1 hP 0 rfl (by rw [hm.2.2.1]; rfl) 0 (by decide) (hE.2.2.2.2.1 _ hlk) (fun _ h => h) rfl hd (k H locs ls hP hD hS hl)
set_option maxRecDepth 20000 in
theorem cl_ft_tape {i : Int32} (hE : gOK E cc own ret hgt) (hm : cOK E l D G Q nL) (hd : decode cc pc = .ok (.baload, 1)) (hi : vp_in i 3000) (k : GW E (cW G σ) (pc + 1) L (.int (c_ft_tape σ i.toNatClampNeg) :: st)) : GW E (cW G σ) pc L (.int i :: .ref (G.1 201) :: st) := fun H locs ls hP hD hS hl =>
  va_bald hE.1 hE.2.1 hE.2.2.2.2.2.2.2.2.1 hP 1 2 (cA := G.2 2) (n := 3000) rfl (by rw [hm.2.2.2.1]; rfl) hi hd (k H locs ls hP hD hS hl)
set_option maxRecDepth 20000 in
theorem cn_ft_tape (hE : gOK E cc own ret hgt) (hm : cOK E l D G Q nL) (hd : decode cc pc = .ok (.arraylength, 1)) (k : GW E (cW G σ) (pc + 1) L (.int 3000 :: st)) : GW E (cW G σ) pc L (.ref (G.1 201) :: st) := fun H locs ls hP hD hS hl =>
  va_alen hE.1 hE.2.1 hE.2.2.2.2.2.2.2.2.1 hP 1 2 (cA := G.2 2) (x := (3000, .inl (σ.2.2.1 200))) rfl (by rw [hm.2.2.2.1]; rfl) (show Int32.ofNat 3000 = 3000 by decide) hd (k H locs ls hP hD hS hl)
set_option maxRecDepth 20000 in
theorem cs_ft_tape {i : Int32} {v : Int32} (hE : gOK E cc own ret hgt) (hm : cOK E l D G Q nL) (hd : decode cc pc = .ok (.bastore, 1)) (hi : vp_in i 3000) {P : CS → Prop} (h : ∀ σ1 : CS, σ1 = c_ft_tape_s σ i.toNatClampNeg (v.toInt8.toInt32) → P σ1) (k : ∀ σ1 : CS, P σ1 → GW E (cW G σ1) (pc + 1) L st) : GW E (cW G σ) pc L (.int v :: .int i :: .ref (G.1 201) :: st) := fun H locs ls hP hD hS hl =>
  va_bast hE.1 hE.2.1 hE.2.2.2.2.2.2.2.2.1 hP hD hS 1 2 (cA := G.2 2) (n := 3000) rfl (by rw [hm.2.2.2.1]; rfl) hi hd (fun H locs hP hD hS => k _ (h _ rfl) H locs ls (by rw [vp_nar_byte] at hP; exact hP) (by rw [vp_nar_byte] at hD; exact hD) hS hl)
set_option maxRecDepth 20000 in
theorem cg_ft_tapeLength (hE : gOK E cc own ret hgt) (hm : cOK E l D G Q nL) (hlk : Cond.fieldLink own idx "FigureTexts" "tapeLength" "I" ∈ gTb) (hd : decode cc pc = .ok (.getfield idx, 3)) (k : GW E (cW G σ) (pc + 3) L (.int (c_ft_tapeLength σ) :: st)) : GW E (cW G σ) pc L (.ref (G.1 200) :: st) := fun H locs ls hP hD hS hl =>
  va_get (D := eD E) (ci := 10) (fs := cF_ft G σ) (C := RX12) (T := TX12) (N := 17) hE.1 hE.2.1 hE.2.2.2.2.1 cIn_X12 hE.2.2.2.1 hE.2.2.2.2.2.2.2.2.1 hP 0 rfl (by rw [hm.2.2.1]; rfl) 1 (by decide) (hE.2.2.2.2.1 _ hlk) (fun _ h => h) rfl hd (k H locs ls hP hD hS hl)
set_option maxRecDepth 20000 in
theorem cp_ft_tapeLength {v : Int32} (hE : gOK E cc own ret hgt) (hm : cOK E l D G Q nL) (hlk : Cond.fieldLink own idx "FigureTexts" "tapeLength" "I" ∈ gTb) (hd : decode cc pc = .ok (.putfield idx, 3)) {P : CS → Prop} (h : ∀ σ1 : CS, σ1 = c_ft_tapeLength_s σ v → P σ1) (k : ∀ σ1 : CS, P σ1 → GW E (cW G σ1) (pc + 3) L st) : GW E (cW G σ) pc L (.int v :: .ref (G.1 200) :: st) := fun H locs ls hP hD hS hl =>
  va_put (D := eD E) (ci := 10) (fs := cF_ft G σ) (v := .int v) (ty := .int) (C := RX12) (T := TX12) (N := 17) hE.1 hE.2.1 hE.2.2.2.2.1 cIn_X12 tyX12 tyX12_ok nmX12 hE.2.2.2.1 hE.2.2.2.2.2.2.2.2.1 hP hD hS 0 rfl (by rw [hm.2.2.1]; rfl) 1 (by decide) (hE.2.2.2.2.1 _ hlk) (fun _ h => h) rfl (by decide +kernel) rfl rfl (Nat.le_of_ble_eq_true rfl) hd (fun H locs hP hD hS => k _ (h _ rfl) H locs ls hP hD hS hl)
set_option maxRecDepth 20000 in
theorem cg_ft_out (hE : gOK E cc own ret hgt) (hm : cOK E l D G Q nL) (hlk : Cond.fieldLink own idx "FigureTexts" "out" "LFigureTexts$Out;" ∈ gTb) (hd : decode cc pc = .ok (.getfield idx, 3)) (k : GW E (cW G σ) (pc + 3) L (.ref (G.1 500) :: st)) : GW E (cW G σ) pc L (.ref (G.1 200) :: st) := fun H locs ls hP hD hS hl =>
  va_get (D := eD E) (ci := 10) (fs := cF_ft G σ) (C := RX12) (T := TX12) (N := 17) hE.1 hE.2.1 hE.2.2.2.2.1 cIn_X12 hE.2.2.2.1 hE.2.2.2.2.2.2.2.2.1 hP 0 rfl (by rw [hm.2.2.1]; rfl) 2 (by decide) (hE.2.2.2.2.1 _ hlk) (fun _ h => h) rfl hd (k H locs ls hP hD hS hl)
set_option maxRecDepth 20000 in
theorem cg_ft_figure (hE : gOK E cc own ret hgt) (hm : cOK E l D G Q nL) (hlk : Cond.fieldLink own idx "FigureTexts" "figure" "LFigureTexts$Figure;" ∈ gTb) (hd : decode cc pc = .ok (.getfield idx, 3)) {j : Nat} (hj : c_ft_figure σ = j) (k : GW E (cW G σ) (pc + 3) L (.ref (G.1 j) :: st)) : GW E (cW G σ) pc L (.ref (G.1 200) :: st) := by subst hj; exact (fun H locs ls hP hD hS hl =>
  va_get (D := eD E) (ci := 10) (fs := cF_ft G σ) (C := RX12) (T := TX12) (N := 17) hE.1 hE.2.1 hE.2.2.2.2.1 cIn_X12 hE.2.2.2.1 hE.2.2.2.2.2.2.2.2.1 hP 0 rfl (by rw [hm.2.2.1]; rfl) 3 (by decide) (hE.2.2.2.2.1 _ hlk) (fun _ h => h) rfl hd (k H locs ls hP hD hS hl))
set_option maxRecDepth 20000 in
theorem cp_ft_figure {v : Nat} (hE : gOK E cc own ret hgt) (hm : cOK E l D G Q nL) (hlk : Cond.fieldLink own idx "FigureTexts" "figure" "LFigureTexts$Figure;" ∈ gTb) (hd : decode cc pc = .ok (.putfield idx, 3)) {P : CS → Prop} (h : ∀ σ1 : CS, σ1 = c_ft_figure_s σ v → P σ1) (k : ∀ σ1 : CS, P σ1 → GW E (cW G σ1) (pc + 3) L st) : GW E (cW G σ) pc L (.ref (G.1 v) :: .ref (G.1 200) :: st) := fun H locs ls hP hD hS hl =>
  va_put (D := eD E) (ci := 10) (fs := cF_ft G σ) (v := .ref (G.1 v)) (ty := .object "FigureTexts$Figure") (C := RX12) (T := TX12) (N := 17) hE.1 hE.2.1 hE.2.2.2.2.1 cIn_X12 tyX12 tyX12_ok nmX12 hE.2.2.2.1 hE.2.2.2.2.2.2.2.2.1 hP hD hS 0 rfl (by rw [hm.2.2.1]; rfl) 3 (by decide) (hE.2.2.2.2.1 _ hlk) (fun _ h => h) rfl (by decide +kernel) rfl rfl (Nat.le_of_ble_eq_true rfl) hd (fun H locs hP hD hS => k _ (h _ rfl) H locs ls hP hD hS hl)
set_option maxRecDepth 20000 in
theorem cg_ft_spare (hE : gOK E cc own ret hgt) (hm : cOK E l D G Q nL) (hlk : Cond.fieldLink own idx "FigureTexts" "spare" "LFigureTexts$Figure;" ∈ gTb) (hd : decode cc pc = .ok (.getfield idx, 3)) {j : Nat} (hj : c_ft_spare σ = j) (k : GW E (cW G σ) (pc + 3) L (.ref (G.1 j) :: st)) : GW E (cW G σ) pc L (.ref (G.1 200) :: st) := by subst hj; exact (fun H locs ls hP hD hS hl =>
  va_get (D := eD E) (ci := 10) (fs := cF_ft G σ) (C := RX12) (T := TX12) (N := 17) hE.1 hE.2.1 hE.2.2.2.2.1 cIn_X12 hE.2.2.2.1 hE.2.2.2.2.2.2.2.2.1 hP 0 rfl (by rw [hm.2.2.1]; rfl) 4 (by decide) (hE.2.2.2.2.1 _ hlk) (fun _ h => h) rfl hd (k H locs ls hP hD hS hl))
set_option maxRecDepth 20000 in
theorem cp_ft_spare {v : Nat} (hE : gOK E cc own ret hgt) (hm : cOK E l D G Q nL) (hlk : Cond.fieldLink own idx "FigureTexts" "spare" "LFigureTexts$Figure;" ∈ gTb) (hd : decode cc pc = .ok (.putfield idx, 3)) {P : CS → Prop} (h : ∀ σ1 : CS, σ1 = c_ft_spare_s σ v → P σ1) (k : ∀ σ1 : CS, P σ1 → GW E (cW G σ1) (pc + 3) L st) : GW E (cW G σ) pc L (.ref (G.1 v) :: .ref (G.1 200) :: st) := fun H locs ls hP hD hS hl =>
  va_put (D := eD E) (ci := 10) (fs := cF_ft G σ) (v := .ref (G.1 v)) (ty := .object "FigureTexts$Figure") (C := RX12) (T := TX12) (N := 17) hE.1 hE.2.1 hE.2.2.2.2.1 cIn_X12 tyX12 tyX12_ok nmX12 hE.2.2.2.1 hE.2.2.2.2.2.2.2.2.1 hP hD hS 0 rfl (by rw [hm.2.2.1]; rfl) 4 (by decide) (hE.2.2.2.2.1 _ hlk) (fun _ h => h) rfl (by decide +kernel) rfl rfl (Nat.le_of_ble_eq_true rfl) hd (fun H locs hP hD hS => k _ (h _ rfl) H locs ls hP hD hS hl)
set_option maxRecDepth 20000 in
theorem cg_ft_hasFigure (hE : gOK E cc own ret hgt) (hm : cOK E l D G Q nL) (hlk : Cond.fieldLink own idx "FigureTexts" "hasFigure" "Z" ∈ gTb) (hd : decode cc pc = .ok (.getfield idx, 3)) (k : GW E (cW G σ) (pc + 3) L (.int (c_ft_hasFigure σ) :: st)) : GW E (cW G σ) pc L (.ref (G.1 200) :: st) := fun H locs ls hP hD hS hl =>
  va_get (D := eD E) (ci := 10) (fs := cF_ft G σ) (C := RX12) (T := TX12) (N := 17) hE.1 hE.2.1 hE.2.2.2.2.1 cIn_X12 hE.2.2.2.1 hE.2.2.2.2.2.2.2.2.1 hP 0 rfl (by rw [hm.2.2.1]; rfl) 5 (by decide) (hE.2.2.2.2.1 _ hlk) (fun _ h => h) rfl hd (k H locs ls hP hD hS hl)
set_option maxRecDepth 20000 in
theorem cp_ft_hasFigure {v : Int32} (hE : gOK E cc own ret hgt) (hm : cOK E l D G Q nL) (hlk : Cond.fieldLink own idx "FigureTexts" "hasFigure" "Z" ∈ gTb) (hd : decode cc pc = .ok (.putfield idx, 3)) (hb : isB v) {P : CS → Prop} (h : ∀ σ1 : CS, σ1 = c_ft_hasFigure_s σ v → P σ1) (k : ∀ σ1 : CS, P σ1 → GW E (cW G σ1) (pc + 3) L st) : GW E (cW G σ) pc L (.int v :: .ref (G.1 200) :: st) := fun H locs ls hP hD hS hl =>
  va_put (D := eD E) (ci := 10) (fs := cF_ft G σ) (v := .int v) (ty := .boolean) (C := RX12) (T := TX12) (N := 17) hE.1 hE.2.1 hE.2.2.2.2.1 cIn_X12 tyX12 tyX12_ok nmX12 hE.2.2.2.1 hE.2.2.2.2.2.2.2.2.1 hP hD hS 0 rfl (by rw [hm.2.2.1]; rfl) 5 (by decide) (hE.2.2.2.2.1 _ hlk) (fun _ h => h) rfl (by decide +kernel) (isB_n hb) (isB_f hb) (Nat.le_of_ble_eq_true rfl) hd (fun H locs hP hD hS => k _ (h _ rfl) H locs ls hP hD hS hl)
set_option maxRecDepth 20000 in
theorem cg_ft_faultPlace (hE : gOK E cc own ret hgt) (hm : cOK E l D G Q nL) (hlk : Cond.fieldLink own idx "FigureTexts" "faultPlace" "I" ∈ gTb) (hd : decode cc pc = .ok (.getfield idx, 3)) (k : GW E (cW G σ) (pc + 3) L (.int (c_ft_faultPlace σ) :: st)) : GW E (cW G σ) pc L (.ref (G.1 200) :: st) := fun H locs ls hP hD hS hl =>
  va_get (D := eD E) (ci := 10) (fs := cF_ft G σ) (C := RX12) (T := TX12) (N := 17) hE.1 hE.2.1 hE.2.2.2.2.1 cIn_X12 hE.2.2.2.1 hE.2.2.2.2.2.2.2.2.1 hP 0 rfl (by rw [hm.2.2.1]; rfl) 6 (by decide) (hE.2.2.2.2.1 _ hlk) (fun _ h => h) rfl hd (k H locs ls hP hD hS hl)
set_option maxRecDepth 20000 in
theorem cp_ft_faultPlace {v : Int32} (hE : gOK E cc own ret hgt) (hm : cOK E l D G Q nL) (hlk : Cond.fieldLink own idx "FigureTexts" "faultPlace" "I" ∈ gTb) (hd : decode cc pc = .ok (.putfield idx, 3)) {P : CS → Prop} (h : ∀ σ1 : CS, σ1 = c_ft_faultPlace_s σ v → P σ1) (k : ∀ σ1 : CS, P σ1 → GW E (cW G σ1) (pc + 3) L st) : GW E (cW G σ) pc L (.int v :: .ref (G.1 200) :: st) := fun H locs ls hP hD hS hl =>
  va_put (D := eD E) (ci := 10) (fs := cF_ft G σ) (v := .int v) (ty := .int) (C := RX12) (T := TX12) (N := 17) hE.1 hE.2.1 hE.2.2.2.2.1 cIn_X12 tyX12 tyX12_ok nmX12 hE.2.2.2.1 hE.2.2.2.2.2.2.2.2.1 hP hD hS 0 rfl (by rw [hm.2.2.1]; rfl) 6 (by decide) (hE.2.2.2.2.1 _ hlk) (fun _ h => h) rfl (by decide +kernel) rfl rfl (Nat.le_of_ble_eq_true rfl) hd (fun H locs hP hD hS => k _ (h _ rfl) H locs ls hP hD hS hl)
set_option maxRecDepth 20000 in
theorem cg_ft_reader (hE : gOK E cc own ret hgt) (hm : cOK E l D G Q nL) (hlk : Cond.fieldLink own idx "FigureTexts" "reader" "LFigureTexts$Reader;" ∈ gTb) (hd : decode cc pc = .ok (.getfield idx, 3)) (k : GW E (cW G σ) (pc + 3) L (.ref (G.1 600) :: st)) : GW E (cW G σ) pc L (.ref (G.1 200) :: st) := fun H locs ls hP hD hS hl =>
  va_get (D := eD E) (ci := 10) (fs := cF_ft G σ) (C := RX12) (T := TX12) (N := 17) hE.1 hE.2.1 hE.2.2.2.2.1 cIn_X12 hE.2.2.2.1 hE.2.2.2.2.2.2.2.2.1 hP 0 rfl (by rw [hm.2.2.1]; rfl) 7 (by decide) (hE.2.2.2.2.1 _ hlk) (fun _ h => h) rfl hd (k H locs ls hP hD hS hl)
set_option maxRecDepth 20000 in
theorem cg_ft_printer (hE : gOK E cc own ret hgt) (hm : cOK E l D G Q nL) (hlk : Cond.fieldLink own idx "FigureTexts" "printer" "LFigureTexts$Printer;" ∈ gTb) (hd : decode cc pc = .ok (.getfield idx, 3)) (k : GW E (cW G σ) (pc + 3) L (.ref (G.1 700) :: st)) : GW E (cW G σ) pc L (.ref (G.1 200) :: st) := fun H locs ls hP hD hS hl =>
  va_get (D := eD E) (ci := 10) (fs := cF_ft G σ) (C := RX12) (T := TX12) (N := 17) hE.1 hE.2.1 hE.2.2.2.2.1 cIn_X12 hE.2.2.2.1 hE.2.2.2.2.2.2.2.2.1 hP 0 rfl (by rw [hm.2.2.1]; rfl) 8 (by decide) (hE.2.2.2.2.1 _ hlk) (fun _ h => h) rfl hd (k H locs ls hP hD hS hl)
set_option maxRecDepth 20000 in
theorem cg_ft_reckoner (hE : gOK E cc own ret hgt) (hm : cOK E l D G Q nL) (hlk : Cond.fieldLink own idx "FigureTexts" "reckoner" "LFigureTexts$Reckoner;" ∈ gTb) (hd : decode cc pc = .ok (.getfield idx, 3)) (k : GW E (cW G σ) (pc + 3) L (.ref (G.1 800) :: st)) : GW E (cW G σ) pc L (.ref (G.1 200) :: st) := fun H locs ls hP hD hS hl =>
  va_get (D := eD E) (ci := 10) (fs := cF_ft G σ) (C := RX12) (T := TX12) (N := 17) hE.1 hE.2.1 hE.2.2.2.2.1 cIn_X12 hE.2.2.2.1 hE.2.2.2.2.2.2.2.2.1 hP 0 rfl (by rw [hm.2.2.1]; rfl) 9 (by decide) (hE.2.2.2.2.1 _ hlk) (fun _ h => h) rfl hd (k H locs ls hP hD hS hl)
set_option maxRecDepth 20000 in
theorem cg_ft_things (hE : gOK E cc own ret hgt) (hm : cOK E l D G Q nL) (hlk : Cond.fieldLink own idx "FigureTexts" "things" "LFigureTexts$Things;" ∈ gTb) (hd : decode cc pc = .ok (.getfield idx, 3)) (k : GW E (cW G σ) (pc + 3) L (.ref (G.1 900) :: st)) : GW E (cW G σ) pc L (.ref (G.1 200) :: st) := fun H locs ls hP hD hS hl =>
  va_get (D := eD E) (ci := 10) (fs := cF_ft G σ) (C := RX12) (T := TX12) (N := 17) hE.1 hE.2.1 hE.2.2.2.2.1 cIn_X12 hE.2.2.2.1 hE.2.2.2.2.2.2.2.2.1 hP 0 rfl (by rw [hm.2.2.1]; rfl) 10 (by decide) (hE.2.2.2.2.1 _ hlk) (fun _ h => h) rfl hd (k H locs ls hP hD hS hl)
set_option maxRecDepth 20000 in
theorem cg_ft_frees (hE : gOK E cc own ret hgt) (hm : cOK E l D G Q nL) (hlk : Cond.fieldLink own idx "FigureTexts" "frees" "LFigureTexts$Frees;" ∈ gTb) (hd : decode cc pc = .ok (.getfield idx, 3)) (k : GW E (cW G σ) (pc + 3) L (.ref (G.1 1000) :: st)) : GW E (cW G σ) pc L (.ref (G.1 200) :: st) := fun H locs ls hP hD hS hl =>
  va_get (D := eD E) (ci := 10) (fs := cF_ft G σ) (C := RX12) (T := TX12) (N := 17) hE.1 hE.2.1 hE.2.2.2.2.1 cIn_X12 hE.2.2.2.1 hE.2.2.2.2.2.2.2.2.1 hP 0 rfl (by rw [hm.2.2.1]; rfl) 11 (by decide) (hE.2.2.2.2.1 _ hlk) (fun _ h => h) rfl hd (k H locs ls hP hD hS hl)
set_option maxRecDepth 20000 in
theorem cg_ft_told (hE : gOK E cc own ret hgt) (hm : cOK E l D G Q nL) (hlk : Cond.fieldLink own idx "FigureTexts" "told" "LFigureTexts$Told;" ∈ gTb) (hd : decode cc pc = .ok (.getfield idx, 3)) (k : GW E (cW G σ) (pc + 3) L (.ref (G.1 1100) :: st)) : GW E (cW G σ) pc L (.ref (G.1 200) :: st) := fun H locs ls hP hD hS hl =>
  va_get (D := eD E) (ci := 10) (fs := cF_ft G σ) (C := RX12) (T := TX12) (N := 17) hE.1 hE.2.1 hE.2.2.2.2.1 cIn_X12 hE.2.2.2.1 hE.2.2.2.2.2.2.2.2.1 hP 0 rfl (by rw [hm.2.2.1]; rfl) 12 (by decide) (hE.2.2.2.2.1 _ hlk) (fun _ h => h) rfl hd (k H locs ls hP hD hS hl)
set_option maxRecDepth 20000 in
theorem cg_ft_runner (hE : gOK E cc own ret hgt) (hm : cOK E l D G Q nL) (hlk : Cond.fieldLink own idx "FigureTexts" "runner" "LFigureTexts$Runner;" ∈ gTb) (hd : decode cc pc = .ok (.getfield idx, 3)) (k : GW E (cW G σ) (pc + 3) L (.ref (G.1 1200) :: st)) : GW E (cW G σ) pc L (.ref (G.1 200) :: st) := fun H locs ls hP hD hS hl =>
  va_get (D := eD E) (ci := 10) (fs := cF_ft G σ) (C := RX12) (T := TX12) (N := 17) hE.1 hE.2.1 hE.2.2.2.2.1 cIn_X12 hE.2.2.2.1 hE.2.2.2.2.2.2.2.2.1 hP 0 rfl (by rw [hm.2.2.1]; rfl) 13 (by decide) (hE.2.2.2.2.1 _ hlk) (fun _ h => h) rfl hd (k H locs ls hP hD hS hl)
set_option maxRecDepth 20000 in
theorem cg_ft_runs (hE : gOK E cc own ret hgt) (hm : cOK E l D G Q nL) (hlk : Cond.fieldLink own idx "FigureTexts" "runs" "I" ∈ gTb) (hd : decode cc pc = .ok (.getfield idx, 3)) (k : GW E (cW G σ) (pc + 3) L (.int (c_ft_runs σ) :: st)) : GW E (cW G σ) pc L (.ref (G.1 200) :: st) := fun H locs ls hP hD hS hl =>
  va_get (D := eD E) (ci := 10) (fs := cF_ft G σ) (C := RX12) (T := TX12) (N := 17) hE.1 hE.2.1 hE.2.2.2.2.1 cIn_X12 hE.2.2.2.1 hE.2.2.2.2.2.2.2.2.1 hP 0 rfl (by rw [hm.2.2.1]; rfl) 14 (by decide) (hE.2.2.2.2.1 _ hlk) (fun _ h => h) rfl hd (k H locs ls hP hD hS hl)
set_option maxRecDepth 20000 in
theorem cp_ft_runs {v : Int32} (hE : gOK E cc own ret hgt) (hm : cOK E l D G Q nL) (hlk : Cond.fieldLink own idx "FigureTexts" "runs" "I" ∈ gTb) (hd : decode cc pc = .ok (.putfield idx, 3)) {P : CS → Prop} (h : ∀ σ1 : CS, σ1 = c_ft_runs_s σ v → P σ1) (k : ∀ σ1 : CS, P σ1 → GW E (cW G σ1) (pc + 3) L st) : GW E (cW G σ) pc L (.int v :: .ref (G.1 200) :: st) := fun H locs ls hP hD hS hl =>
  va_put (D := eD E) (ci := 10) (fs := cF_ft G σ) (v := .int v) (ty := .int) (C := RX12) (T := TX12) (N := 17) hE.1 hE.2.1 hE.2.2.2.2.1 cIn_X12 tyX12 tyX12_ok nmX12 hE.2.2.2.1 hE.2.2.2.2.2.2.2.2.1 hP hD hS 0 rfl (by rw [hm.2.2.1]; rfl) 14 (by decide) (hE.2.2.2.2.1 _ hlk) (fun _ h => h) rfl (by decide +kernel) rfl rfl (Nat.le_of_ble_eq_true rfl) hd (fun H locs hP hD hS => k _ (h _ rfl) H locs ls hP hD hS hl)
set_option maxRecDepth 20000 in
theorem cg_ft_sweeping (hE : gOK E cc own ret hgt) (hm : cOK E l D G Q nL) (hlk : Cond.fieldLink own idx "FigureTexts" "sweeping" "[I" ∈ gTb) (hd : decode cc pc = .ok (.getfield idx, 3)) (k : GW E (cW G σ) (pc + 3) L (.ref (G.1 216) :: st)) : GW E (cW G σ) pc L (.ref (G.1 200) :: st) := fun H locs ls hP hD hS hl =>
  va_get (D := eD E) (ci := 10) (fs := cF_ft G σ) (C := RX12) (T := TX12) (N := 17) hE.1 hE.2.1 hE.2.2.2.2.1 cIn_X12 hE.2.2.2.1 hE.2.2.2.2.2.2.2.2.1 hP 0 rfl (by rw [hm.2.2.1]; rfl) 15 (by decide) (hE.2.2.2.2.1 _ hlk) (fun _ h => h) rfl hd (k H locs ls hP hD hS hl)
set_option maxRecDepth 20000 in
theorem cl_ft_sweeping {i : Int32} (hE : gOK E cc own ret hgt) (hm : cOK E l D G Q nL) (hd : decode cc pc = .ok (.iaload, 1)) (hi : vp_in i 21) (k : GW E (cW G σ) (pc + 1) L (.int (c_ft_sweeping σ i.toNatClampNeg) :: st)) : GW E (cW G σ) pc L (.int i :: .ref (G.1 216) :: st) := fun H locs ls hP hD hS hl =>
  va_iald hE.1 hE.2.1 hE.2.2.2.2.2.2.2.2.1 hP 2 0 (cA := G.2 0) (n := 21) rfl (by rw [hm.2.2.2.1]; rfl) hi hd (k H locs ls hP hD hS hl)
set_option maxRecDepth 20000 in
theorem cn_ft_sweeping (hE : gOK E cc own ret hgt) (hm : cOK E l D G Q nL) (hd : decode cc pc = .ok (.arraylength, 1)) (k : GW E (cW G σ) (pc + 1) L (.int 21 :: st)) : GW E (cW G σ) pc L (.ref (G.1 216) :: st) := fun H locs ls hP hD hS hl =>
  va_alen hE.1 hE.2.1 hE.2.2.2.2.2.2.2.2.1 hP 2 0 (cA := G.2 0) (x := (21, .inl (σ.2.2.1 215))) rfl (by rw [hm.2.2.2.1]; rfl) (show Int32.ofNat 21 = 21 by decide) hd (k H locs ls hP hD hS hl)
set_option maxRecDepth 20000 in
theorem cs_ft_sweeping {i : Int32} {v : Int32} (hE : gOK E cc own ret hgt) (hm : cOK E l D G Q nL) (hd : decode cc pc = .ok (.iastore, 1)) (hi : vp_in i 21) {P : CS → Prop} (h : ∀ σ1 : CS, σ1 = c_ft_sweeping_s σ i.toNatClampNeg v → P σ1) (k : ∀ σ1 : CS, P σ1 → GW E (cW G σ1) (pc + 1) L st) : GW E (cW G σ) pc L (.int v :: .int i :: .ref (G.1 216) :: st) := fun H locs ls hP hD hS hl =>
  va_iast hE.1 hE.2.1 hE.2.2.2.2.2.2.2.2.1 hP hD hS 2 0 (cA := G.2 0) (n := 21) rfl (by rw [hm.2.2.2.1]; rfl) hi hd (fun H locs hP hD hS => k _ (h _ rfl) H locs ls hP hD hS hl)
set_option maxRecDepth 20000 in
theorem cg_ft_sweepingMany (hE : gOK E cc own ret hgt) (hm : cOK E l D G Q nL) (hlk : Cond.fieldLink own idx "FigureTexts" "sweepingMany" "I" ∈ gTb) (hd : decode cc pc = .ok (.getfield idx, 3)) (k : GW E (cW G σ) (pc + 3) L (.int (c_ft_sweepingMany σ) :: st)) : GW E (cW G σ) pc L (.ref (G.1 200) :: st) := fun H locs ls hP hD hS hl =>
  va_get (D := eD E) (ci := 10) (fs := cF_ft G σ) (C := RX12) (T := TX12) (N := 17) hE.1 hE.2.1 hE.2.2.2.2.1 cIn_X12 hE.2.2.2.1 hE.2.2.2.2.2.2.2.2.1 hP 0 rfl (by rw [hm.2.2.1]; rfl) 16 (by decide) (hE.2.2.2.2.1 _ hlk) (fun _ h => h) rfl hd (k H locs ls hP hD hS hl)
set_option maxRecDepth 20000 in
theorem cp_ft_sweepingMany {v : Int32} (hE : gOK E cc own ret hgt) (hm : cOK E l D G Q nL) (hlk : Cond.fieldLink own idx "FigureTexts" "sweepingMany" "I" ∈ gTb) (hd : decode cc pc = .ok (.putfield idx, 3)) {P : CS → Prop} (h : ∀ σ1 : CS, σ1 = c_ft_sweepingMany_s σ v → P σ1) (k : ∀ σ1 : CS, P σ1 → GW E (cW G σ1) (pc + 3) L st) : GW E (cW G σ) pc L (.int v :: .ref (G.1 200) :: st) := fun H locs ls hP hD hS hl =>
  va_put (D := eD E) (ci := 10) (fs := cF_ft G σ) (v := .int v) (ty := .int) (C := RX12) (T := TX12) (N := 17) hE.1 hE.2.1 hE.2.2.2.2.1 cIn_X12 tyX12 tyX12_ok nmX12 hE.2.2.2.1 hE.2.2.2.2.2.2.2.2.1 hP hD hS 0 rfl (by rw [hm.2.2.1]; rfl) 16 (by decide) (hE.2.2.2.2.1 _ hlk) (fun _ h => h) rfl (by decide +kernel) rfl rfl (Nat.le_of_ble_eq_true rfl) hd (fun H locs hP hD hS => k _ (h _ rfl) H locs ls hP hD hS hl)
set_option maxRecDepth 20000 in
theorem cg_fg_text (hE : gOK E cc own ret hgt) (hm : cOK E l D G Q nL) (hlk : Cond.fieldLink own idx "FigureTexts$Figure" "text" "[B" ∈ gTb) (hd : decode cc pc = .ok (.getfield idx, 3)) (k : GW E (cW G σ) (pc + 3) L (.ref (G.1 301) :: st)) : GW E (cW G σ) pc L (.ref (G.1 300) :: st) := fun H locs ls hP hD hS hl =>
  va_get (D := eD E) (ci := 0) (fs := cF_fg G σ) (C := RX1) (T := TX1) (N := 18) hE.1 hE.2.1 hE.2.2.2.2.1 cIn_X1 hE.2.2.2.1 hE.2.2.2.2.2.2.2.2.1 hP 3 rfl (by rw [hm.2.2.1]; rfl) 0 (by decide) (hE.2.2.2.2.1 _ hlk) (fun _ h => h) rfl hd (k H locs ls hP hD hS hl)
set_option maxRecDepth 20000 in
theorem cl_fg_text {i : Int32} (hE : gOK E cc own ret hgt) (hm : cOK E l D G Q nL) (hd : decode cc pc = .ok (.baload, 1)) (hi : vp_in i 3000) (k : GW E (cW G σ) (pc + 1) L (.int (c_fg_text σ i.toNatClampNeg) :: st)) : GW E (cW G σ) pc L (.int i :: .ref (G.1 301) :: st) := fun H locs ls hP hD hS hl =>
  va_bald hE.1 hE.2.1 hE.2.2.2.2.2.2.2.2.1 hP 4 2 (cA := G.2 2) (n := 3000) rfl (by rw [hm.2.2.2.1]; rfl) hi hd (k H locs ls hP hD hS hl)
set_option maxRecDepth 20000 in
theorem cn_fg_text (hE : gOK E cc own ret hgt) (hm : cOK E l D G Q nL) (hd : decode cc pc = .ok (.arraylength, 1)) (k : GW E (cW G σ) (pc + 1) L (.int 3000 :: st)) : GW E (cW G σ) pc L (.ref (G.1 301) :: st) := fun H locs ls hP hD hS hl =>
  va_alen hE.1 hE.2.1 hE.2.2.2.2.2.2.2.2.1 hP 4 2 (cA := G.2 2) (x := (3000, .inl (σ.2.2.1 300))) rfl (by rw [hm.2.2.2.1]; rfl) (show Int32.ofNat 3000 = 3000 by decide) hd (k H locs ls hP hD hS hl)
set_option maxRecDepth 20000 in
theorem cs_fg_text {i : Int32} {v : Int32} (hE : gOK E cc own ret hgt) (hm : cOK E l D G Q nL) (hd : decode cc pc = .ok (.bastore, 1)) (hi : vp_in i 3000) {P : CS → Prop} (h : ∀ σ1 : CS, σ1 = c_fg_text_s σ i.toNatClampNeg (v.toInt8.toInt32) → P σ1) (k : ∀ σ1 : CS, P σ1 → GW E (cW G σ1) (pc + 1) L st) : GW E (cW G σ) pc L (.int v :: .int i :: .ref (G.1 301) :: st) := fun H locs ls hP hD hS hl =>
  va_bast hE.1 hE.2.1 hE.2.2.2.2.2.2.2.2.1 hP hD hS 4 2 (cA := G.2 2) (n := 3000) rfl (by rw [hm.2.2.2.1]; rfl) hi hd (fun H locs hP hD hS => k _ (h _ rfl) H locs ls (by rw [vp_nar_byte] at hP; exact hP) (by rw [vp_nar_byte] at hD; exact hD) hS hl)
set_option maxRecDepth 20000 in
theorem cg_fg_length (hE : gOK E cc own ret hgt) (hm : cOK E l D G Q nL) (hlk : Cond.fieldLink own idx "FigureTexts$Figure" "length" "I" ∈ gTb) (hd : decode cc pc = .ok (.getfield idx, 3)) (k : GW E (cW G σ) (pc + 3) L (.int (c_fg_length σ) :: st)) : GW E (cW G σ) pc L (.ref (G.1 300) :: st) := fun H locs ls hP hD hS hl =>
  va_get (D := eD E) (ci := 0) (fs := cF_fg G σ) (C := RX1) (T := TX1) (N := 18) hE.1 hE.2.1 hE.2.2.2.2.1 cIn_X1 hE.2.2.2.1 hE.2.2.2.2.2.2.2.2.1 hP 3 rfl (by rw [hm.2.2.1]; rfl) 1 (by decide) (hE.2.2.2.2.1 _ hlk) (fun _ h => h) rfl hd (k H locs ls hP hD hS hl)
set_option maxRecDepth 20000 in
theorem cp_fg_length {v : Int32} (hE : gOK E cc own ret hgt) (hm : cOK E l D G Q nL) (hlk : Cond.fieldLink own idx "FigureTexts$Figure" "length" "I" ∈ gTb) (hd : decode cc pc = .ok (.putfield idx, 3)) {P : CS → Prop} (h : ∀ σ1 : CS, σ1 = c_fg_length_s σ v → P σ1) (k : ∀ σ1 : CS, P σ1 → GW E (cW G σ1) (pc + 3) L st) : GW E (cW G σ) pc L (.int v :: .ref (G.1 300) :: st) := fun H locs ls hP hD hS hl =>
  va_put (D := eD E) (ci := 0) (fs := cF_fg G σ) (v := .int v) (ty := .int) (C := RX1) (T := TX1) (N := 18) hE.1 hE.2.1 hE.2.2.2.2.1 cIn_X1 tyX1 tyX1_ok nmX1 hE.2.2.2.1 hE.2.2.2.2.2.2.2.2.1 hP hD hS 3 rfl (by rw [hm.2.2.1]; rfl) 1 (by decide) (hE.2.2.2.2.1 _ hlk) (fun _ h => h) rfl (by decide +kernel) rfl rfl (Nat.le_of_ble_eq_true rfl) hd (fun H locs hP hD hS => k _ (h _ rfl) H locs ls hP hD hS hl)
set_option maxRecDepth 20000 in
theorem cg_fg_type (hE : gOK E cc own ret hgt) (hm : cOK E l D G Q nL) (hlk : Cond.fieldLink own idx "FigureTexts$Figure" "type" "[I" ∈ gTb) (hd : decode cc pc = .ok (.getfield idx, 3)) (k : GW E (cW G σ) (pc + 3) L (.ref (G.1 303) :: st)) : GW E (cW G σ) pc L (.ref (G.1 300) :: st) := fun H locs ls hP hD hS hl =>
  va_get (D := eD E) (ci := 0) (fs := cF_fg G σ) (C := RX1) (T := TX1) (N := 18) hE.1 hE.2.1 hE.2.2.2.2.1 cIn_X1 hE.2.2.2.1 hE.2.2.2.2.2.2.2.2.1 hP 3 rfl (by rw [hm.2.2.1]; rfl) 2 (by decide) (hE.2.2.2.2.1 _ hlk) (fun _ h => h) rfl hd (k H locs ls hP hD hS hl)
set_option maxRecDepth 20000 in
theorem cl_fg_type {i : Int32} (hE : gOK E cc own ret hgt) (hm : cOK E l D G Q nL) (hd : decode cc pc = .ok (.iaload, 1)) (hi : vp_in i 250) (k : GW E (cW G σ) (pc + 1) L (.int (c_fg_type σ i.toNatClampNeg) :: st)) : GW E (cW G σ) pc L (.int i :: .ref (G.1 303) :: st) := fun H locs ls hP hD hS hl =>
  va_iald hE.1 hE.2.1 hE.2.2.2.2.2.2.2.2.1 hP 5 0 (cA := G.2 0) (n := 250) rfl (by rw [hm.2.2.2.1]; rfl) hi hd (k H locs ls hP hD hS hl)
set_option maxRecDepth 20000 in
theorem cn_fg_type (hE : gOK E cc own ret hgt) (hm : cOK E l D G Q nL) (hd : decode cc pc = .ok (.arraylength, 1)) (k : GW E (cW G σ) (pc + 1) L (.int 250 :: st)) : GW E (cW G σ) pc L (.ref (G.1 303) :: st) := fun H locs ls hP hD hS hl =>
  va_alen hE.1 hE.2.1 hE.2.2.2.2.2.2.2.2.1 hP 5 0 (cA := G.2 0) (x := (250, .inl (σ.2.2.1 302))) rfl (by rw [hm.2.2.2.1]; rfl) (show Int32.ofNat 250 = 250 by decide) hd (k H locs ls hP hD hS hl)
set_option maxRecDepth 20000 in
theorem cs_fg_type {i : Int32} {v : Int32} (hE : gOK E cc own ret hgt) (hm : cOK E l D G Q nL) (hd : decode cc pc = .ok (.iastore, 1)) (hi : vp_in i 250) {P : CS → Prop} (h : ∀ σ1 : CS, σ1 = c_fg_type_s σ i.toNatClampNeg v → P σ1) (k : ∀ σ1 : CS, P σ1 → GW E (cW G σ1) (pc + 1) L st) : GW E (cW G σ) pc L (.int v :: .int i :: .ref (G.1 303) :: st) := fun H locs ls hP hD hS hl =>
  va_iast hE.1 hE.2.1 hE.2.2.2.2.2.2.2.2.1 hP hD hS 5 0 (cA := G.2 0) (n := 250) rfl (by rw [hm.2.2.2.1]; rfl) hi hd (fun H locs hP hD hS => k _ (h _ rfl) H locs ls hP hD hS hl)
set_option maxRecDepth 20000 in
theorem cg_fg_at (hE : gOK E cc own ret hgt) (hm : cOK E l D G Q nL) (hlk : Cond.fieldLink own idx "FigureTexts$Figure" "at" "[I" ∈ gTb) (hd : decode cc pc = .ok (.getfield idx, 3)) (k : GW E (cW G σ) (pc + 3) L (.ref (G.1 304) :: st)) : GW E (cW G σ) pc L (.ref (G.1 300) :: st) := fun H locs ls hP hD hS hl =>
  va_get (D := eD E) (ci := 0) (fs := cF_fg G σ) (C := RX1) (T := TX1) (N := 18) hE.1 hE.2.1 hE.2.2.2.2.1 cIn_X1 hE.2.2.2.1 hE.2.2.2.2.2.2.2.2.1 hP 3 rfl (by rw [hm.2.2.1]; rfl) 3 (by decide) (hE.2.2.2.2.1 _ hlk) (fun _ h => h) rfl hd (k H locs ls hP hD hS hl)
set_option maxRecDepth 20000 in
theorem cl_fg_at {i : Int32} (hE : gOK E cc own ret hgt) (hm : cOK E l D G Q nL) (hd : decode cc pc = .ok (.iaload, 1)) (hi : vp_in i 250) (k : GW E (cW G σ) (pc + 1) L (.int (c_fg_at σ i.toNatClampNeg) :: st)) : GW E (cW G σ) pc L (.int i :: .ref (G.1 304) :: st) := fun H locs ls hP hD hS hl =>
  va_iald hE.1 hE.2.1 hE.2.2.2.2.2.2.2.2.1 hP 6 0 (cA := G.2 0) (n := 250) rfl (by rw [hm.2.2.2.1]; rfl) hi hd (k H locs ls hP hD hS hl)
set_option maxRecDepth 20000 in
theorem cn_fg_at (hE : gOK E cc own ret hgt) (hm : cOK E l D G Q nL) (hd : decode cc pc = .ok (.arraylength, 1)) (k : GW E (cW G σ) (pc + 1) L (.int 250 :: st)) : GW E (cW G σ) pc L (.ref (G.1 304) :: st) := fun H locs ls hP hD hS hl =>
  va_alen hE.1 hE.2.1 hE.2.2.2.2.2.2.2.2.1 hP 6 0 (cA := G.2 0) (x := (250, .inl (σ.2.2.1 303))) rfl (by rw [hm.2.2.2.1]; rfl) (show Int32.ofNat 250 = 250 by decide) hd (k H locs ls hP hD hS hl)
set_option maxRecDepth 20000 in
theorem cs_fg_at {i : Int32} {v : Int32} (hE : gOK E cc own ret hgt) (hm : cOK E l D G Q nL) (hd : decode cc pc = .ok (.iastore, 1)) (hi : vp_in i 250) {P : CS → Prop} (h : ∀ σ1 : CS, σ1 = c_fg_at_s σ i.toNatClampNeg v → P σ1) (k : ∀ σ1 : CS, P σ1 → GW E (cW G σ1) (pc + 1) L st) : GW E (cW G σ) pc L (.int v :: .int i :: .ref (G.1 304) :: st) := fun H locs ls hP hD hS hl =>
  va_iast hE.1 hE.2.1 hE.2.2.2.2.2.2.2.2.1 hP hD hS 6 0 (cA := G.2 0) (n := 250) rfl (by rw [hm.2.2.2.1]; rfl) hi hd (fun H locs hP hD hS => k _ (h _ rfl) H locs ls hP hD hS hl)
set_option maxRecDepth 20000 in
theorem cg_fg_data (hE : gOK E cc own ret hgt) (hm : cOK E l D G Q nL) (hlk : Cond.fieldLink own idx "FigureTexts$Figure" "data" "[I" ∈ gTb) (hd : decode cc pc = .ok (.getfield idx, 3)) (k : GW E (cW G σ) (pc + 3) L (.ref (G.1 305) :: st)) : GW E (cW G σ) pc L (.ref (G.1 300) :: st) := fun H locs ls hP hD hS hl =>
  va_get (D := eD E) (ci := 0) (fs := cF_fg G σ) (C := RX1) (T := TX1) (N := 18) hE.1 hE.2.1 hE.2.2.2.2.1 cIn_X1 hE.2.2.2.1 hE.2.2.2.2.2.2.2.2.1 hP 3 rfl (by rw [hm.2.2.1]; rfl) 4 (by decide) (hE.2.2.2.2.1 _ hlk) (fun _ h => h) rfl hd (k H locs ls hP hD hS hl)
set_option maxRecDepth 20000 in
theorem cl_fg_data {i : Int32} (hE : gOK E cc own ret hgt) (hm : cOK E l D G Q nL) (hd : decode cc pc = .ok (.iaload, 1)) (hi : vp_in i 250) (k : GW E (cW G σ) (pc + 1) L (.int (c_fg_data σ i.toNatClampNeg) :: st)) : GW E (cW G σ) pc L (.int i :: .ref (G.1 305) :: st) := fun H locs ls hP hD hS hl =>
  va_iald hE.1 hE.2.1 hE.2.2.2.2.2.2.2.2.1 hP 7 0 (cA := G.2 0) (n := 250) rfl (by rw [hm.2.2.2.1]; rfl) hi hd (k H locs ls hP hD hS hl)
set_option maxRecDepth 20000 in
theorem cn_fg_data (hE : gOK E cc own ret hgt) (hm : cOK E l D G Q nL) (hd : decode cc pc = .ok (.arraylength, 1)) (k : GW E (cW G σ) (pc + 1) L (.int 250 :: st)) : GW E (cW G σ) pc L (.ref (G.1 305) :: st) := fun H locs ls hP hD hS hl =>
  va_alen hE.1 hE.2.1 hE.2.2.2.2.2.2.2.2.1 hP 7 0 (cA := G.2 0) (x := (250, .inl (σ.2.2.1 304))) rfl (by rw [hm.2.2.2.1]; rfl) (show Int32.ofNat 250 = 250 by decide) hd (k H locs ls hP hD hS hl)
set_option maxRecDepth 20000 in
theorem cs_fg_data {i : Int32} {v : Int32} (hE : gOK E cc own ret hgt) (hm : cOK E l D G Q nL) (hd : decode cc pc = .ok (.iastore, 1)) (hi : vp_in i 250) {P : CS → Prop} (h : ∀ σ1 : CS, σ1 = c_fg_data_s σ i.toNatClampNeg v → P σ1) (k : ∀ σ1 : CS, P σ1 → GW E (cW G σ1) (pc + 1) L st) : GW E (cW G σ) pc L (.int v :: .int i :: .ref (G.1 305) :: st) := fun H locs ls hP hD hS hl =>
  va_iast hE.1 hE.2.1 hE.2.2.2.2.2.2.2.2.1 hP hD hS 7 0 (cA := G.2 0) (n := 250) rfl (by rw [hm.2.2.2.1]; rfl) hi hd (fun H locs hP hD hS => k _ (h _ rfl) H locs ls hP hD hS hl)
set_option maxRecDepth 20000 in
theorem cg_fg_first (hE : gOK E cc own ret hgt) (hm : cOK E l D G Q nL) (hlk : Cond.fieldLink own idx "FigureTexts$Figure" "first" "[I" ∈ gTb) (hd : decode cc pc = .ok (.getfield idx, 3)) (k : GW E (cW G σ) (pc + 3) L (.ref (G.1 306) :: st)) : GW E (cW G σ) pc L (.ref (G.1 300) :: st) := fun H locs ls hP hD hS hl =>
  va_get (D := eD E) (ci := 0) (fs := cF_fg G σ) (C := RX1) (T := TX1) (N := 18) hE.1 hE.2.1 hE.2.2.2.2.1 cIn_X1 hE.2.2.2.1 hE.2.2.2.2.2.2.2.2.1 hP 3 rfl (by rw [hm.2.2.1]; rfl) 5 (by decide) (hE.2.2.2.2.1 _ hlk) (fun _ h => h) rfl hd (k H locs ls hP hD hS hl)
set_option maxRecDepth 20000 in
theorem cl_fg_first {i : Int32} (hE : gOK E cc own ret hgt) (hm : cOK E l D G Q nL) (hd : decode cc pc = .ok (.iaload, 1)) (hi : vp_in i 250) (k : GW E (cW G σ) (pc + 1) L (.int (c_fg_first σ i.toNatClampNeg) :: st)) : GW E (cW G σ) pc L (.int i :: .ref (G.1 306) :: st) := fun H locs ls hP hD hS hl =>
  va_iald hE.1 hE.2.1 hE.2.2.2.2.2.2.2.2.1 hP 8 0 (cA := G.2 0) (n := 250) rfl (by rw [hm.2.2.2.1]; rfl) hi hd (k H locs ls hP hD hS hl)
set_option maxRecDepth 20000 in
theorem cn_fg_first (hE : gOK E cc own ret hgt) (hm : cOK E l D G Q nL) (hd : decode cc pc = .ok (.arraylength, 1)) (k : GW E (cW G σ) (pc + 1) L (.int 250 :: st)) : GW E (cW G σ) pc L (.ref (G.1 306) :: st) := fun H locs ls hP hD hS hl =>
  va_alen hE.1 hE.2.1 hE.2.2.2.2.2.2.2.2.1 hP 8 0 (cA := G.2 0) (x := (250, .inl (σ.2.2.1 305))) rfl (by rw [hm.2.2.2.1]; rfl) (show Int32.ofNat 250 = 250 by decide) hd (k H locs ls hP hD hS hl)
set_option maxRecDepth 20000 in
theorem cs_fg_first {i : Int32} {v : Int32} (hE : gOK E cc own ret hgt) (hm : cOK E l D G Q nL) (hd : decode cc pc = .ok (.iastore, 1)) (hi : vp_in i 250) {P : CS → Prop} (h : ∀ σ1 : CS, σ1 = c_fg_first_s σ i.toNatClampNeg v → P σ1) (k : ∀ σ1 : CS, P σ1 → GW E (cW G σ1) (pc + 1) L st) : GW E (cW G σ) pc L (.int v :: .int i :: .ref (G.1 306) :: st) := fun H locs ls hP hD hS hl =>
  va_iast hE.1 hE.2.1 hE.2.2.2.2.2.2.2.2.1 hP hD hS 8 0 (cA := G.2 0) (n := 250) rfl (by rw [hm.2.2.2.1]; rfl) hi hd (fun H locs hP hD hS => k _ (h _ rfl) H locs ls hP hD hS hl)
set_option maxRecDepth 20000 in
theorem cg_fg_next (hE : gOK E cc own ret hgt) (hm : cOK E l D G Q nL) (hlk : Cond.fieldLink own idx "FigureTexts$Figure" "next" "[I" ∈ gTb) (hd : decode cc pc = .ok (.getfield idx, 3)) (k : GW E (cW G σ) (pc + 3) L (.ref (G.1 307) :: st)) : GW E (cW G σ) pc L (.ref (G.1 300) :: st) := fun H locs ls hP hD hS hl =>
  va_get (D := eD E) (ci := 0) (fs := cF_fg G σ) (C := RX1) (T := TX1) (N := 18) hE.1 hE.2.1 hE.2.2.2.2.1 cIn_X1 hE.2.2.2.1 hE.2.2.2.2.2.2.2.2.1 hP 3 rfl (by rw [hm.2.2.1]; rfl) 6 (by decide) (hE.2.2.2.2.1 _ hlk) (fun _ h => h) rfl hd (k H locs ls hP hD hS hl)
set_option maxRecDepth 20000 in
theorem cl_fg_next {i : Int32} (hE : gOK E cc own ret hgt) (hm : cOK E l D G Q nL) (hd : decode cc pc = .ok (.iaload, 1)) (hi : vp_in i 250) (k : GW E (cW G σ) (pc + 1) L (.int (c_fg_next σ i.toNatClampNeg) :: st)) : GW E (cW G σ) pc L (.int i :: .ref (G.1 307) :: st) := fun H locs ls hP hD hS hl =>
  va_iald hE.1 hE.2.1 hE.2.2.2.2.2.2.2.2.1 hP 9 0 (cA := G.2 0) (n := 250) rfl (by rw [hm.2.2.2.1]; rfl) hi hd (k H locs ls hP hD hS hl)
set_option maxRecDepth 20000 in
theorem cn_fg_next (hE : gOK E cc own ret hgt) (hm : cOK E l D G Q nL) (hd : decode cc pc = .ok (.arraylength, 1)) (k : GW E (cW G σ) (pc + 1) L (.int 250 :: st)) : GW E (cW G σ) pc L (.ref (G.1 307) :: st) := fun H locs ls hP hD hS hl =>
  va_alen hE.1 hE.2.1 hE.2.2.2.2.2.2.2.2.1 hP 9 0 (cA := G.2 0) (x := (250, .inl (σ.2.2.1 306))) rfl (by rw [hm.2.2.2.1]; rfl) (show Int32.ofNat 250 = 250 by decide) hd (k H locs ls hP hD hS hl)
set_option maxRecDepth 20000 in
theorem cs_fg_next {i : Int32} {v : Int32} (hE : gOK E cc own ret hgt) (hm : cOK E l D G Q nL) (hd : decode cc pc = .ok (.iastore, 1)) (hi : vp_in i 250) {P : CS → Prop} (h : ∀ σ1 : CS, σ1 = c_fg_next_s σ i.toNatClampNeg v → P σ1) (k : ∀ σ1 : CS, P σ1 → GW E (cW G σ1) (pc + 1) L st) : GW E (cW G σ) pc L (.int v :: .int i :: .ref (G.1 307) :: st) := fun H locs ls hP hD hS hl =>
  va_iast hE.1 hE.2.1 hE.2.2.2.2.2.2.2.2.1 hP hD hS 9 0 (cA := G.2 0) (n := 250) rfl (by rw [hm.2.2.2.1]; rfl) hi hd (fun H locs hP hD hS => k _ (h _ rfl) H locs ls hP hD hS hl)
set_option maxRecDepth 20000 in
theorem cg_fg_body (hE : gOK E cc own ret hgt) (hm : cOK E l D G Q nL) (hlk : Cond.fieldLink own idx "FigureTexts$Figure" "body" "[I" ∈ gTb) (hd : decode cc pc = .ok (.getfield idx, 3)) (k : GW E (cW G σ) (pc + 3) L (.ref (G.1 308) :: st)) : GW E (cW G σ) pc L (.ref (G.1 300) :: st) := fun H locs ls hP hD hS hl =>
  va_get (D := eD E) (ci := 0) (fs := cF_fg G σ) (C := RX1) (T := TX1) (N := 18) hE.1 hE.2.1 hE.2.2.2.2.1 cIn_X1 hE.2.2.2.1 hE.2.2.2.2.2.2.2.2.1 hP 3 rfl (by rw [hm.2.2.1]; rfl) 7 (by decide) (hE.2.2.2.2.1 _ hlk) (fun _ h => h) rfl hd (k H locs ls hP hD hS hl)
set_option maxRecDepth 20000 in
theorem cl_fg_body {i : Int32} (hE : gOK E cc own ret hgt) (hm : cOK E l D G Q nL) (hd : decode cc pc = .ok (.iaload, 1)) (hi : vp_in i 250) (k : GW E (cW G σ) (pc + 1) L (.int (c_fg_body σ i.toNatClampNeg) :: st)) : GW E (cW G σ) pc L (.int i :: .ref (G.1 308) :: st) := fun H locs ls hP hD hS hl =>
  va_iald hE.1 hE.2.1 hE.2.2.2.2.2.2.2.2.1 hP 10 0 (cA := G.2 0) (n := 250) rfl (by rw [hm.2.2.2.1]; rfl) hi hd (k H locs ls hP hD hS hl)
set_option maxRecDepth 20000 in
theorem cn_fg_body (hE : gOK E cc own ret hgt) (hm : cOK E l D G Q nL) (hd : decode cc pc = .ok (.arraylength, 1)) (k : GW E (cW G σ) (pc + 1) L (.int 250 :: st)) : GW E (cW G σ) pc L (.ref (G.1 308) :: st) := fun H locs ls hP hD hS hl =>
  va_alen hE.1 hE.2.1 hE.2.2.2.2.2.2.2.2.1 hP 10 0 (cA := G.2 0) (x := (250, .inl (σ.2.2.1 307))) rfl (by rw [hm.2.2.2.1]; rfl) (show Int32.ofNat 250 = 250 by decide) hd (k H locs ls hP hD hS hl)
set_option maxRecDepth 20000 in
theorem cs_fg_body {i : Int32} {v : Int32} (hE : gOK E cc own ret hgt) (hm : cOK E l D G Q nL) (hd : decode cc pc = .ok (.iastore, 1)) (hi : vp_in i 250) {P : CS → Prop} (h : ∀ σ1 : CS, σ1 = c_fg_body_s σ i.toNatClampNeg v → P σ1) (k : ∀ σ1 : CS, P σ1 → GW E (cW G σ1) (pc + 1) L st) : GW E (cW G σ) pc L (.int v :: .int i :: .ref (G.1 308) :: st) := fun H locs ls hP hD hS hl =>
  va_iast hE.1 hE.2.1 hE.2.2.2.2.2.2.2.2.1 hP hD hS 10 0 (cA := G.2 0) (n := 250) rfl (by rw [hm.2.2.2.1]; rfl) hi hd (fun H locs hP hD hS => k _ (h _ rfl) H locs ls hP hD hS hl)
set_option maxRecDepth 20000 in
theorem cg_fg_other (hE : gOK E cc own ret hgt) (hm : cOK E l D G Q nL) (hlk : Cond.fieldLink own idx "FigureTexts$Figure" "other" "[I" ∈ gTb) (hd : decode cc pc = .ok (.getfield idx, 3)) (k : GW E (cW G σ) (pc + 3) L (.ref (G.1 309) :: st)) : GW E (cW G σ) pc L (.ref (G.1 300) :: st) := fun H locs ls hP hD hS hl =>
  va_get (D := eD E) (ci := 0) (fs := cF_fg G σ) (C := RX1) (T := TX1) (N := 18) hE.1 hE.2.1 hE.2.2.2.2.1 cIn_X1 hE.2.2.2.1 hE.2.2.2.2.2.2.2.2.1 hP 3 rfl (by rw [hm.2.2.1]; rfl) 8 (by decide) (hE.2.2.2.2.1 _ hlk) (fun _ h => h) rfl hd (k H locs ls hP hD hS hl)
set_option maxRecDepth 20000 in
theorem cl_fg_other {i : Int32} (hE : gOK E cc own ret hgt) (hm : cOK E l D G Q nL) (hd : decode cc pc = .ok (.iaload, 1)) (hi : vp_in i 250) (k : GW E (cW G σ) (pc + 1) L (.int (c_fg_other σ i.toNatClampNeg) :: st)) : GW E (cW G σ) pc L (.int i :: .ref (G.1 309) :: st) := fun H locs ls hP hD hS hl =>
  va_iald hE.1 hE.2.1 hE.2.2.2.2.2.2.2.2.1 hP 11 0 (cA := G.2 0) (n := 250) rfl (by rw [hm.2.2.2.1]; rfl) hi hd (k H locs ls hP hD hS hl)
set_option maxRecDepth 20000 in
theorem cn_fg_other (hE : gOK E cc own ret hgt) (hm : cOK E l D G Q nL) (hd : decode cc pc = .ok (.arraylength, 1)) (k : GW E (cW G σ) (pc + 1) L (.int 250 :: st)) : GW E (cW G σ) pc L (.ref (G.1 309) :: st) := fun H locs ls hP hD hS hl =>
  va_alen hE.1 hE.2.1 hE.2.2.2.2.2.2.2.2.1 hP 11 0 (cA := G.2 0) (x := (250, .inl (σ.2.2.1 308))) rfl (by rw [hm.2.2.2.1]; rfl) (show Int32.ofNat 250 = 250 by decide) hd (k H locs ls hP hD hS hl)
set_option maxRecDepth 20000 in
theorem cs_fg_other {i : Int32} {v : Int32} (hE : gOK E cc own ret hgt) (hm : cOK E l D G Q nL) (hd : decode cc pc = .ok (.iastore, 1)) (hi : vp_in i 250) {P : CS → Prop} (h : ∀ σ1 : CS, σ1 = c_fg_other_s σ i.toNatClampNeg v → P σ1) (k : ∀ σ1 : CS, P σ1 → GW E (cW G σ1) (pc + 1) L st) : GW E (cW G σ) pc L (.int v :: .int i :: .ref (G.1 309) :: st) := fun H locs ls hP hD hS hl =>
  va_iast hE.1 hE.2.1 hE.2.2.2.2.2.2.2.2.1 hP hD hS 11 0 (cA := G.2 0) (n := 250) rfl (by rw [hm.2.2.2.1]; rfl) hi hd (fun H locs hP hD hS => k _ (h _ rfl) H locs ls hP hD hS hl)
set_option maxRecDepth 20000 in
theorem cg_fg_nodes (hE : gOK E cc own ret hgt) (hm : cOK E l D G Q nL) (hlk : Cond.fieldLink own idx "FigureTexts$Figure" "nodes" "I" ∈ gTb) (hd : decode cc pc = .ok (.getfield idx, 3)) (k : GW E (cW G σ) (pc + 3) L (.int (c_fg_nodes σ) :: st)) : GW E (cW G σ) pc L (.ref (G.1 300) :: st) := fun H locs ls hP hD hS hl =>
  va_get (D := eD E) (ci := 0) (fs := cF_fg G σ) (C := RX1) (T := TX1) (N := 18) hE.1 hE.2.1 hE.2.2.2.2.1 cIn_X1 hE.2.2.2.1 hE.2.2.2.2.2.2.2.2.1 hP 3 rfl (by rw [hm.2.2.1]; rfl) 9 (by decide) (hE.2.2.2.2.1 _ hlk) (fun _ h => h) rfl hd (k H locs ls hP hD hS hl)
set_option maxRecDepth 20000 in
theorem cp_fg_nodes {v : Int32} (hE : gOK E cc own ret hgt) (hm : cOK E l D G Q nL) (hlk : Cond.fieldLink own idx "FigureTexts$Figure" "nodes" "I" ∈ gTb) (hd : decode cc pc = .ok (.putfield idx, 3)) {P : CS → Prop} (h : ∀ σ1 : CS, σ1 = c_fg_nodes_s σ v → P σ1) (k : ∀ σ1 : CS, P σ1 → GW E (cW G σ1) (pc + 3) L st) : GW E (cW G σ) pc L (.int v :: .ref (G.1 300) :: st) := fun H locs ls hP hD hS hl =>
  va_put (D := eD E) (ci := 0) (fs := cF_fg G σ) (v := .int v) (ty := .int) (C := RX1) (T := TX1) (N := 18) hE.1 hE.2.1 hE.2.2.2.2.1 cIn_X1 tyX1 tyX1_ok nmX1 hE.2.2.2.1 hE.2.2.2.2.2.2.2.2.1 hP hD hS 3 rfl (by rw [hm.2.2.1]; rfl) 9 (by decide) (hE.2.2.2.2.1 _ hlk) (fun _ h => h) rfl (by decide +kernel) rfl rfl (Nat.le_of_ble_eq_true rfl) hd (fun H locs hP hD hS => k _ (h _ rfl) H locs ls hP hD hS hl)
set_option maxRecDepth 20000 in
theorem cg_fg_deeds (hE : gOK E cc own ret hgt) (hm : cOK E l D G Q nL) (hlk : Cond.fieldLink own idx "FigureTexts$Figure" "deeds" "I" ∈ gTb) (hd : decode cc pc = .ok (.getfield idx, 3)) (k : GW E (cW G σ) (pc + 3) L (.int (c_fg_deeds σ) :: st)) : GW E (cW G σ) pc L (.ref (G.1 300) :: st) := fun H locs ls hP hD hS hl =>
  va_get (D := eD E) (ci := 0) (fs := cF_fg G σ) (C := RX1) (T := TX1) (N := 18) hE.1 hE.2.1 hE.2.2.2.2.1 cIn_X1 hE.2.2.2.1 hE.2.2.2.2.2.2.2.2.1 hP 3 rfl (by rw [hm.2.2.1]; rfl) 10 (by decide) (hE.2.2.2.2.1 _ hlk) (fun _ h => h) rfl hd (k H locs ls hP hD hS hl)
set_option maxRecDepth 20000 in
theorem cp_fg_deeds {v : Int32} (hE : gOK E cc own ret hgt) (hm : cOK E l D G Q nL) (hlk : Cond.fieldLink own idx "FigureTexts$Figure" "deeds" "I" ∈ gTb) (hd : decode cc pc = .ok (.putfield idx, 3)) {P : CS → Prop} (h : ∀ σ1 : CS, σ1 = c_fg_deeds_s σ v → P σ1) (k : ∀ σ1 : CS, P σ1 → GW E (cW G σ1) (pc + 3) L st) : GW E (cW G σ) pc L (.int v :: .ref (G.1 300) :: st) := fun H locs ls hP hD hS hl =>
  va_put (D := eD E) (ci := 0) (fs := cF_fg G σ) (v := .int v) (ty := .int) (C := RX1) (T := TX1) (N := 18) hE.1 hE.2.1 hE.2.2.2.2.1 cIn_X1 tyX1 tyX1_ok nmX1 hE.2.2.2.1 hE.2.2.2.2.2.2.2.2.1 hP hD hS 3 rfl (by rw [hm.2.2.1]; rfl) 10 (by decide) (hE.2.2.2.2.1 _ hlk) (fun _ h => h) rfl (by decide +kernel) rfl rfl (Nat.le_of_ble_eq_true rfl) hd (fun H locs hP hD hS => k _ (h _ rfl) H locs ls hP hD hS hl)
set_option maxRecDepth 20000 in
theorem cg_fg_firstDeed (hE : gOK E cc own ret hgt) (hm : cOK E l D G Q nL) (hlk : Cond.fieldLink own idx "FigureTexts$Figure" "firstDeed" "I" ∈ gTb) (hd : decode cc pc = .ok (.getfield idx, 3)) (k : GW E (cW G σ) (pc + 3) L (.int (c_fg_firstDeed σ) :: st)) : GW E (cW G σ) pc L (.ref (G.1 300) :: st) := fun H locs ls hP hD hS hl =>
  va_get (D := eD E) (ci := 0) (fs := cF_fg G σ) (C := RX1) (T := TX1) (N := 18) hE.1 hE.2.1 hE.2.2.2.2.1 cIn_X1 hE.2.2.2.1 hE.2.2.2.2.2.2.2.2.1 hP 3 rfl (by rw [hm.2.2.1]; rfl) 11 (by decide) (hE.2.2.2.2.1 _ hlk) (fun _ h => h) rfl hd (k H locs ls hP hD hS hl)
set_option maxRecDepth 20000 in
theorem cp_fg_firstDeed {v : Int32} (hE : gOK E cc own ret hgt) (hm : cOK E l D G Q nL) (hlk : Cond.fieldLink own idx "FigureTexts$Figure" "firstDeed" "I" ∈ gTb) (hd : decode cc pc = .ok (.putfield idx, 3)) {P : CS → Prop} (h : ∀ σ1 : CS, σ1 = c_fg_firstDeed_s σ v → P σ1) (k : ∀ σ1 : CS, P σ1 → GW E (cW G σ1) (pc + 3) L st) : GW E (cW G σ) pc L (.int v :: .ref (G.1 300) :: st) := fun H locs ls hP hD hS hl =>
  va_put (D := eD E) (ci := 0) (fs := cF_fg G σ) (v := .int v) (ty := .int) (C := RX1) (T := TX1) (N := 18) hE.1 hE.2.1 hE.2.2.2.2.1 cIn_X1 tyX1 tyX1_ok nmX1 hE.2.2.2.1 hE.2.2.2.2.2.2.2.2.1 hP hD hS 3 rfl (by rw [hm.2.2.1]; rfl) 11 (by decide) (hE.2.2.2.2.1 _ hlk) (fun _ h => h) rfl (by decide +kernel) rfl rfl (Nat.le_of_ble_eq_true rfl) hd (fun H locs hP hD hS => k _ (h _ rfl) H locs ls hP hD hS hl)
set_option maxRecDepth 20000 in
theorem cg_fg_nameAt (hE : gOK E cc own ret hgt) (hm : cOK E l D G Q nL) (hlk : Cond.fieldLink own idx "FigureTexts$Figure" "nameAt" "[I" ∈ gTb) (hd : decode cc pc = .ok (.getfield idx, 3)) (k : GW E (cW G σ) (pc + 3) L (.ref (G.1 313) :: st)) : GW E (cW G σ) pc L (.ref (G.1 300) :: st) := fun H locs ls hP hD hS hl =>
  va_get (D := eD E) (ci := 0) (fs := cF_fg G σ) (C := RX1) (T := TX1) (N := 18) hE.1 hE.2.1 hE.2.2.2.2.1 cIn_X1 hE.2.2.2.1 hE.2.2.2.2.2.2.2.2.1 hP 3 rfl (by rw [hm.2.2.1]; rfl) 12 (by decide) (hE.2.2.2.2.1 _ hlk) (fun _ h => h) rfl hd (k H locs ls hP hD hS hl)
set_option maxRecDepth 20000 in
theorem cl_fg_nameAt {i : Int32} (hE : gOK E cc own ret hgt) (hm : cOK E l D G Q nL) (hd : decode cc pc = .ok (.iaload, 1)) (hi : vp_in i 260) (k : GW E (cW G σ) (pc + 1) L (.int (c_fg_nameAt σ i.toNatClampNeg) :: st)) : GW E (cW G σ) pc L (.int i :: .ref (G.1 313) :: st) := fun H locs ls hP hD hS hl =>
  va_iald hE.1 hE.2.1 hE.2.2.2.2.2.2.2.2.1 hP 12 0 (cA := G.2 0) (n := 260) rfl (by rw [hm.2.2.2.1]; rfl) hi hd (k H locs ls hP hD hS hl)
set_option maxRecDepth 20000 in
theorem cn_fg_nameAt (hE : gOK E cc own ret hgt) (hm : cOK E l D G Q nL) (hd : decode cc pc = .ok (.arraylength, 1)) (k : GW E (cW G σ) (pc + 1) L (.int 260 :: st)) : GW E (cW G σ) pc L (.ref (G.1 313) :: st) := fun H locs ls hP hD hS hl =>
  va_alen hE.1 hE.2.1 hE.2.2.2.2.2.2.2.2.1 hP 12 0 (cA := G.2 0) (x := (260, .inl (σ.2.2.1 312))) rfl (by rw [hm.2.2.2.1]; rfl) (show Int32.ofNat 260 = 260 by decide) hd (k H locs ls hP hD hS hl)
set_option maxRecDepth 20000 in
theorem cs_fg_nameAt {i : Int32} {v : Int32} (hE : gOK E cc own ret hgt) (hm : cOK E l D G Q nL) (hd : decode cc pc = .ok (.iastore, 1)) (hi : vp_in i 260) {P : CS → Prop} (h : ∀ σ1 : CS, σ1 = c_fg_nameAt_s σ i.toNatClampNeg v → P σ1) (k : ∀ σ1 : CS, P σ1 → GW E (cW G σ1) (pc + 1) L st) : GW E (cW G σ) pc L (.int v :: .int i :: .ref (G.1 313) :: st) := fun H locs ls hP hD hS hl =>
  va_iast hE.1 hE.2.1 hE.2.2.2.2.2.2.2.2.1 hP hD hS 12 0 (cA := G.2 0) (n := 260) rfl (by rw [hm.2.2.2.1]; rfl) hi hd (fun H locs hP hD hS => k _ (h _ rfl) H locs ls hP hD hS hl)
set_option maxRecDepth 20000 in
theorem cg_fg_names (hE : gOK E cc own ret hgt) (hm : cOK E l D G Q nL) (hlk : Cond.fieldLink own idx "FigureTexts$Figure" "names" "[I" ∈ gTb) (hd : decode cc pc = .ok (.getfield idx, 3)) (k : GW E (cW G σ) (pc + 3) L (.ref (G.1 314) :: st)) : GW E (cW G σ) pc L (.ref (G.1 300) :: st) := fun H locs ls hP hD hS hl =>
  va_get (D := eD E) (ci := 0) (fs := cF_fg G σ) (C := RX1) (T := TX1) (N := 18) hE.1 hE.2.1 hE.2.2.2.2.1 cIn_X1 hE.2.2.2.1 hE.2.2.2.2.2.2.2.2.1 hP 3 rfl (by rw [hm.2.2.1]; rfl) 13 (by decide) (hE.2.2.2.2.1 _ hlk) (fun _ h => h) rfl hd (k H locs ls hP hD hS hl)
set_option maxRecDepth 20000 in
theorem cl_fg_names {i : Int32} (hE : gOK E cc own ret hgt) (hm : cOK E l D G Q nL) (hd : decode cc pc = .ok (.iaload, 1)) (hi : vp_in i 13) (k : GW E (cW G σ) (pc + 1) L (.int (c_fg_names σ i.toNatClampNeg) :: st)) : GW E (cW G σ) pc L (.int i :: .ref (G.1 314) :: st) := fun H locs ls hP hD hS hl =>
  va_iald hE.1 hE.2.1 hE.2.2.2.2.2.2.2.2.1 hP 13 0 (cA := G.2 0) (n := 13) rfl (by rw [hm.2.2.2.1]; rfl) hi hd (k H locs ls hP hD hS hl)
set_option maxRecDepth 20000 in
theorem cn_fg_names (hE : gOK E cc own ret hgt) (hm : cOK E l D G Q nL) (hd : decode cc pc = .ok (.arraylength, 1)) (k : GW E (cW G σ) (pc + 1) L (.int 13 :: st)) : GW E (cW G σ) pc L (.ref (G.1 314) :: st) := fun H locs ls hP hD hS hl =>
  va_alen hE.1 hE.2.1 hE.2.2.2.2.2.2.2.2.1 hP 13 0 (cA := G.2 0) (x := (13, .inl (σ.2.2.1 313))) rfl (by rw [hm.2.2.2.1]; rfl) (show Int32.ofNat 13 = 13 by decide) hd (k H locs ls hP hD hS hl)
set_option maxRecDepth 20000 in
theorem cs_fg_names {i : Int32} {v : Int32} (hE : gOK E cc own ret hgt) (hm : cOK E l D G Q nL) (hd : decode cc pc = .ok (.iastore, 1)) (hi : vp_in i 13) {P : CS → Prop} (h : ∀ σ1 : CS, σ1 = c_fg_names_s σ i.toNatClampNeg v → P σ1) (k : ∀ σ1 : CS, P σ1 → GW E (cW G σ1) (pc + 1) L st) : GW E (cW G σ) pc L (.int v :: .int i :: .ref (G.1 314) :: st) := fun H locs ls hP hD hS hl =>
  va_iast hE.1 hE.2.1 hE.2.2.2.2.2.2.2.2.1 hP hD hS 13 0 (cA := G.2 0) (n := 13) rfl (by rw [hm.2.2.2.1]; rfl) hi hd (fun H locs hP hD hS => k _ (h _ rfl) H locs ls hP hD hS hl)
set_option maxRecDepth 20000 in
theorem cg_fg_params (hE : gOK E cc own ret hgt) (hm : cOK E l D G Q nL) (hlk : Cond.fieldLink own idx "FigureTexts$Figure" "params" "[I" ∈ gTb) (hd : decode cc pc = .ok (.getfield idx, 3)) (k : GW E (cW G σ) (pc + 3) L (.ref (G.1 315) :: st)) : GW E (cW G σ) pc L (.ref (G.1 300) :: st) := fun H locs ls hP hD hS hl =>
  va_get (D := eD E) (ci := 0) (fs := cF_fg G σ) (C := RX1) (T := TX1) (N := 18) hE.1 hE.2.1 hE.2.2.2.2.1 cIn_X1 hE.2.2.2.1 hE.2.2.2.2.2.2.2.2.1 hP 3 rfl (by rw [hm.2.2.1]; rfl) 14 (by decide) (hE.2.2.2.2.1 _ hlk) (fun _ h => h) rfl hd (k H locs ls hP hD hS hl)
set_option maxRecDepth 20000 in
theorem cl_fg_params {i : Int32} (hE : gOK E cc own ret hgt) (hm : cOK E l D G Q nL) (hd : decode cc pc = .ok (.iaload, 1)) (hi : vp_in i 12) (k : GW E (cW G σ) (pc + 1) L (.int (c_fg_params σ i.toNatClampNeg) :: st)) : GW E (cW G σ) pc L (.int i :: .ref (G.1 315) :: st) := fun H locs ls hP hD hS hl =>
  va_iald hE.1 hE.2.1 hE.2.2.2.2.2.2.2.2.1 hP 14 0 (cA := G.2 0) (n := 12) rfl (by rw [hm.2.2.2.1]; rfl) hi hd (k H locs ls hP hD hS hl)
set_option maxRecDepth 20000 in
theorem cn_fg_params (hE : gOK E cc own ret hgt) (hm : cOK E l D G Q nL) (hd : decode cc pc = .ok (.arraylength, 1)) (k : GW E (cW G σ) (pc + 1) L (.int 12 :: st)) : GW E (cW G σ) pc L (.ref (G.1 315) :: st) := fun H locs ls hP hD hS hl =>
  va_alen hE.1 hE.2.1 hE.2.2.2.2.2.2.2.2.1 hP 14 0 (cA := G.2 0) (x := (12, .inl (σ.2.2.1 314))) rfl (by rw [hm.2.2.2.1]; rfl) (show Int32.ofNat 12 = 12 by decide) hd (k H locs ls hP hD hS hl)
set_option maxRecDepth 20000 in
theorem cs_fg_params {i : Int32} {v : Int32} (hE : gOK E cc own ret hgt) (hm : cOK E l D G Q nL) (hd : decode cc pc = .ok (.iastore, 1)) (hi : vp_in i 12) {P : CS → Prop} (h : ∀ σ1 : CS, σ1 = c_fg_params_s σ i.toNatClampNeg v → P σ1) (k : ∀ σ1 : CS, P σ1 → GW E (cW G σ1) (pc + 1) L st) : GW E (cW G σ) pc L (.int v :: .int i :: .ref (G.1 315) :: st) := fun H locs ls hP hD hS hl =>
  va_iast hE.1 hE.2.1 hE.2.2.2.2.2.2.2.2.1 hP hD hS 14 0 (cA := G.2 0) (n := 12) rfl (by rw [hm.2.2.2.1]; rfl) hi hd (fun H locs hP hD hS => k _ (h _ rfl) H locs ls hP hD hS hl)
set_option maxRecDepth 20000 in
theorem cg_fg_macroAt (hE : gOK E cc own ret hgt) (hm : cOK E l D G Q nL) (hlk : Cond.fieldLink own idx "FigureTexts$Figure" "macroAt" "[I" ∈ gTb) (hd : decode cc pc = .ok (.getfield idx, 3)) (k : GW E (cW G σ) (pc + 3) L (.ref (G.1 316) :: st)) : GW E (cW G σ) pc L (.ref (G.1 300) :: st) := fun H locs ls hP hD hS hl =>
  va_get (D := eD E) (ci := 0) (fs := cF_fg G σ) (C := RX1) (T := TX1) (N := 18) hE.1 hE.2.1 hE.2.2.2.2.1 cIn_X1 hE.2.2.2.1 hE.2.2.2.2.2.2.2.2.1 hP 3 rfl (by rw [hm.2.2.1]; rfl) 15 (by decide) (hE.2.2.2.2.1 _ hlk) (fun _ h => h) rfl hd (k H locs ls hP hD hS hl)
set_option maxRecDepth 20000 in
theorem cl_fg_macroAt {i : Int32} (hE : gOK E cc own ret hgt) (hm : cOK E l D G Q nL) (hd : decode cc pc = .ok (.iaload, 1)) (hi : vp_in i 12) (k : GW E (cW G σ) (pc + 1) L (.int (c_fg_macroAt σ i.toNatClampNeg) :: st)) : GW E (cW G σ) pc L (.int i :: .ref (G.1 316) :: st) := fun H locs ls hP hD hS hl =>
  va_iald hE.1 hE.2.1 hE.2.2.2.2.2.2.2.2.1 hP 15 0 (cA := G.2 0) (n := 12) rfl (by rw [hm.2.2.2.1]; rfl) hi hd (k H locs ls hP hD hS hl)
set_option maxRecDepth 20000 in
theorem cn_fg_macroAt (hE : gOK E cc own ret hgt) (hm : cOK E l D G Q nL) (hd : decode cc pc = .ok (.arraylength, 1)) (k : GW E (cW G σ) (pc + 1) L (.int 12 :: st)) : GW E (cW G σ) pc L (.ref (G.1 316) :: st) := fun H locs ls hP hD hS hl =>
  va_alen hE.1 hE.2.1 hE.2.2.2.2.2.2.2.2.1 hP 15 0 (cA := G.2 0) (x := (12, .inl (σ.2.2.1 315))) rfl (by rw [hm.2.2.2.1]; rfl) (show Int32.ofNat 12 = 12 by decide) hd (k H locs ls hP hD hS hl)
set_option maxRecDepth 20000 in
theorem cs_fg_macroAt {i : Int32} {v : Int32} (hE : gOK E cc own ret hgt) (hm : cOK E l D G Q nL) (hd : decode cc pc = .ok (.iastore, 1)) (hi : vp_in i 12) {P : CS → Prop} (h : ∀ σ1 : CS, σ1 = c_fg_macroAt_s σ i.toNatClampNeg v → P σ1) (k : ∀ σ1 : CS, P σ1 → GW E (cW G σ1) (pc + 1) L st) : GW E (cW G σ) pc L (.int v :: .int i :: .ref (G.1 316) :: st) := fun H locs ls hP hD hS hl =>
  va_iast hE.1 hE.2.1 hE.2.2.2.2.2.2.2.2.1 hP hD hS 15 0 (cA := G.2 0) (n := 12) rfl (by rw [hm.2.2.2.1]; rfl) hi hd (fun H locs hP hD hS => k _ (h _ rfl) H locs ls hP hD hS hl)
set_option maxRecDepth 20000 in
theorem cg_fg_macroBody (hE : gOK E cc own ret hgt) (hm : cOK E l D G Q nL) (hlk : Cond.fieldLink own idx "FigureTexts$Figure" "macroBody" "[I" ∈ gTb) (hd : decode cc pc = .ok (.getfield idx, 3)) (k : GW E (cW G σ) (pc + 3) L (.ref (G.1 317) :: st)) : GW E (cW G σ) pc L (.ref (G.1 300) :: st) := fun H locs ls hP hD hS hl =>
  va_get (D := eD E) (ci := 0) (fs := cF_fg G σ) (C := RX1) (T := TX1) (N := 18) hE.1 hE.2.1 hE.2.2.2.2.1 cIn_X1 hE.2.2.2.1 hE.2.2.2.2.2.2.2.2.1 hP 3 rfl (by rw [hm.2.2.1]; rfl) 16 (by decide) (hE.2.2.2.2.1 _ hlk) (fun _ h => h) rfl hd (k H locs ls hP hD hS hl)
set_option maxRecDepth 20000 in
theorem cl_fg_macroBody {i : Int32} (hE : gOK E cc own ret hgt) (hm : cOK E l D G Q nL) (hd : decode cc pc = .ok (.iaload, 1)) (hi : vp_in i 12) (k : GW E (cW G σ) (pc + 1) L (.int (c_fg_macroBody σ i.toNatClampNeg) :: st)) : GW E (cW G σ) pc L (.int i :: .ref (G.1 317) :: st) := fun H locs ls hP hD hS hl =>
  va_iald hE.1 hE.2.1 hE.2.2.2.2.2.2.2.2.1 hP 16 0 (cA := G.2 0) (n := 12) rfl (by rw [hm.2.2.2.1]; rfl) hi hd (k H locs ls hP hD hS hl)
set_option maxRecDepth 20000 in
theorem cn_fg_macroBody (hE : gOK E cc own ret hgt) (hm : cOK E l D G Q nL) (hd : decode cc pc = .ok (.arraylength, 1)) (k : GW E (cW G σ) (pc + 1) L (.int 12 :: st)) : GW E (cW G σ) pc L (.ref (G.1 317) :: st) := fun H locs ls hP hD hS hl =>
  va_alen hE.1 hE.2.1 hE.2.2.2.2.2.2.2.2.1 hP 16 0 (cA := G.2 0) (x := (12, .inl (σ.2.2.1 316))) rfl (by rw [hm.2.2.2.1]; rfl) (show Int32.ofNat 12 = 12 by decide) hd (k H locs ls hP hD hS hl)
set_option maxRecDepth 20000 in
theorem cs_fg_macroBody {i : Int32} {v : Int32} (hE : gOK E cc own ret hgt) (hm : cOK E l D G Q nL) (hd : decode cc pc = .ok (.iastore, 1)) (hi : vp_in i 12) {P : CS → Prop} (h : ∀ σ1 : CS, σ1 = c_fg_macroBody_s σ i.toNatClampNeg v → P σ1) (k : ∀ σ1 : CS, P σ1 → GW E (cW G σ1) (pc + 1) L st) : GW E (cW G σ) pc L (.int v :: .int i :: .ref (G.1 317) :: st) := fun H locs ls hP hD hS hl =>
  va_iast hE.1 hE.2.1 hE.2.2.2.2.2.2.2.2.1 hP hD hS 16 0 (cA := G.2 0) (n := 12) rfl (by rw [hm.2.2.2.1]; rfl) hi hd (fun H locs hP hD hS => k _ (h _ rfl) H locs ls hP hD hS hl)
set_option maxRecDepth 20000 in
theorem cg_fg_macros (hE : gOK E cc own ret hgt) (hm : cOK E l D G Q nL) (hlk : Cond.fieldLink own idx "FigureTexts$Figure" "macros" "I" ∈ gTb) (hd : decode cc pc = .ok (.getfield idx, 3)) (k : GW E (cW G σ) (pc + 3) L (.int (c_fg_macros σ) :: st)) : GW E (cW G σ) pc L (.ref (G.1 300) :: st) := fun H locs ls hP hD hS hl =>
  va_get (D := eD E) (ci := 0) (fs := cF_fg G σ) (C := RX1) (T := TX1) (N := 18) hE.1 hE.2.1 hE.2.2.2.2.1 cIn_X1 hE.2.2.2.1 hE.2.2.2.2.2.2.2.2.1 hP 3 rfl (by rw [hm.2.2.1]; rfl) 17 (by decide) (hE.2.2.2.2.1 _ hlk) (fun _ h => h) rfl hd (k H locs ls hP hD hS hl)
set_option maxRecDepth 20000 in
theorem cp_fg_macros {v : Int32} (hE : gOK E cc own ret hgt) (hm : cOK E l D G Q nL) (hlk : Cond.fieldLink own idx "FigureTexts$Figure" "macros" "I" ∈ gTb) (hd : decode cc pc = .ok (.putfield idx, 3)) {P : CS → Prop} (h : ∀ σ1 : CS, σ1 = c_fg_macros_s σ v → P σ1) (k : ∀ σ1 : CS, P σ1 → GW E (cW G σ1) (pc + 3) L st) : GW E (cW G σ) pc L (.int v :: .ref (G.1 300) :: st) := fun H locs ls hP hD hS hl =>
  va_put (D := eD E) (ci := 0) (fs := cF_fg G σ) (v := .int v) (ty := .int) (C := RX1) (T := TX1) (N := 18) hE.1 hE.2.1 hE.2.2.2.2.1 cIn_X1 tyX1 tyX1_ok nmX1 hE.2.2.2.1 hE.2.2.2.2.2.2.2.2.1 hP hD hS 3 rfl (by rw [hm.2.2.1]; rfl) 17 (by decide) (hE.2.2.2.2.1 _ hlk) (fun _ h => h) rfl (by decide +kernel) rfl rfl (Nat.le_of_ble_eq_true rfl) hd (fun H locs hP hD hS => k _ (h _ rfl) H locs ls hP hD hS hl)
set_option maxRecDepth 20000 in
theorem cg_sp_text (hE : gOK E cc own ret hgt) (hm : cOK E l D G Q nL) (hlk : Cond.fieldLink own idx "FigureTexts$Figure" "text" "[B" ∈ gTb) (hd : decode cc pc = .ok (.getfield idx, 3)) (k : GW E (cW G σ) (pc + 3) L (.ref (G.1 401) :: st)) : GW E (cW G σ) pc L (.ref (G.1 400) :: st) := fun H locs ls hP hD hS hl =>
  va_get (D := eD E) (ci := 0) (fs := cF_sp G σ) (C := RX1) (T := TX1) (N := 18) hE.1 hE.2.1 hE.2.2.2.2.1 cIn_X1 hE.2.2.2.1 hE.2.2.2.2.2.2.2.2.1 hP 17 rfl (by rw [hm.2.2.1]; rfl) 0 (by decide) (hE.2.2.2.2.1 _ hlk) (fun _ h => h) rfl hd (k H locs ls hP hD hS hl)
set_option maxRecDepth 20000 in
theorem cl_sp_text {i : Int32} (hE : gOK E cc own ret hgt) (hm : cOK E l D G Q nL) (hd : decode cc pc = .ok (.baload, 1)) (hi : vp_in i 3000) (k : GW E (cW G σ) (pc + 1) L (.int (c_sp_text σ i.toNatClampNeg) :: st)) : GW E (cW G σ) pc L (.int i :: .ref (G.1 401) :: st) := fun H locs ls hP hD hS hl =>
  va_bald hE.1 hE.2.1 hE.2.2.2.2.2.2.2.2.1 hP 18 2 (cA := G.2 2) (n := 3000) rfl (by rw [hm.2.2.2.1]; rfl) hi hd (k H locs ls hP hD hS hl)
set_option maxRecDepth 20000 in
theorem cn_sp_text (hE : gOK E cc own ret hgt) (hm : cOK E l D G Q nL) (hd : decode cc pc = .ok (.arraylength, 1)) (k : GW E (cW G σ) (pc + 1) L (.int 3000 :: st)) : GW E (cW G σ) pc L (.ref (G.1 401) :: st) := fun H locs ls hP hD hS hl =>
  va_alen hE.1 hE.2.1 hE.2.2.2.2.2.2.2.2.1 hP 18 2 (cA := G.2 2) (x := (3000, .inl (σ.2.2.1 400))) rfl (by rw [hm.2.2.2.1]; rfl) (show Int32.ofNat 3000 = 3000 by decide) hd (k H locs ls hP hD hS hl)
set_option maxRecDepth 20000 in
theorem cs_sp_text {i : Int32} {v : Int32} (hE : gOK E cc own ret hgt) (hm : cOK E l D G Q nL) (hd : decode cc pc = .ok (.bastore, 1)) (hi : vp_in i 3000) {P : CS → Prop} (h : ∀ σ1 : CS, σ1 = c_sp_text_s σ i.toNatClampNeg (v.toInt8.toInt32) → P σ1) (k : ∀ σ1 : CS, P σ1 → GW E (cW G σ1) (pc + 1) L st) : GW E (cW G σ) pc L (.int v :: .int i :: .ref (G.1 401) :: st) := fun H locs ls hP hD hS hl =>
  va_bast hE.1 hE.2.1 hE.2.2.2.2.2.2.2.2.1 hP hD hS 18 2 (cA := G.2 2) (n := 3000) rfl (by rw [hm.2.2.2.1]; rfl) hi hd (fun H locs hP hD hS => k _ (h _ rfl) H locs ls (by rw [vp_nar_byte] at hP; exact hP) (by rw [vp_nar_byte] at hD; exact hD) hS hl)
set_option maxRecDepth 20000 in
theorem cg_sp_length (hE : gOK E cc own ret hgt) (hm : cOK E l D G Q nL) (hlk : Cond.fieldLink own idx "FigureTexts$Figure" "length" "I" ∈ gTb) (hd : decode cc pc = .ok (.getfield idx, 3)) (k : GW E (cW G σ) (pc + 3) L (.int (c_sp_length σ) :: st)) : GW E (cW G σ) pc L (.ref (G.1 400) :: st) := fun H locs ls hP hD hS hl =>
  va_get (D := eD E) (ci := 0) (fs := cF_sp G σ) (C := RX1) (T := TX1) (N := 18) hE.1 hE.2.1 hE.2.2.2.2.1 cIn_X1 hE.2.2.2.1 hE.2.2.2.2.2.2.2.2.1 hP 17 rfl (by rw [hm.2.2.1]; rfl) 1 (by decide) (hE.2.2.2.2.1 _ hlk) (fun _ h => h) rfl hd (k H locs ls hP hD hS hl)
set_option maxRecDepth 20000 in
theorem cp_sp_length {v : Int32} (hE : gOK E cc own ret hgt) (hm : cOK E l D G Q nL) (hlk : Cond.fieldLink own idx "FigureTexts$Figure" "length" "I" ∈ gTb) (hd : decode cc pc = .ok (.putfield idx, 3)) {P : CS → Prop} (h : ∀ σ1 : CS, σ1 = c_sp_length_s σ v → P σ1) (k : ∀ σ1 : CS, P σ1 → GW E (cW G σ1) (pc + 3) L st) : GW E (cW G σ) pc L (.int v :: .ref (G.1 400) :: st) := fun H locs ls hP hD hS hl =>
  va_put (D := eD E) (ci := 0) (fs := cF_sp G σ) (v := .int v) (ty := .int) (C := RX1) (T := TX1) (N := 18) hE.1 hE.2.1 hE.2.2.2.2.1 cIn_X1 tyX1 tyX1_ok nmX1 hE.2.2.2.1 hE.2.2.2.2.2.2.2.2.1 hP hD hS 17 rfl (by rw [hm.2.2.1]; rfl) 1 (by decide) (hE.2.2.2.2.1 _ hlk) (fun _ h => h) rfl (by decide +kernel) rfl rfl (Nat.le_of_ble_eq_true rfl) hd (fun H locs hP hD hS => k _ (h _ rfl) H locs ls hP hD hS hl)
set_option maxRecDepth 20000 in
theorem cg_sp_type (hE : gOK E cc own ret hgt) (hm : cOK E l D G Q nL) (hlk : Cond.fieldLink own idx "FigureTexts$Figure" "type" "[I" ∈ gTb) (hd : decode cc pc = .ok (.getfield idx, 3)) (k : GW E (cW G σ) (pc + 3) L (.ref (G.1 403) :: st)) : GW E (cW G σ) pc L (.ref (G.1 400) :: st) := fun H locs ls hP hD hS hl =>
  va_get (D := eD E) (ci := 0) (fs := cF_sp G σ) (C := RX1) (T := TX1) (N := 18) hE.1 hE.2.1 hE.2.2.2.2.1 cIn_X1 hE.2.2.2.1 hE.2.2.2.2.2.2.2.2.1 hP 17 rfl (by rw [hm.2.2.1]; rfl) 2 (by decide) (hE.2.2.2.2.1 _ hlk) (fun _ h => h) rfl hd (k H locs ls hP hD hS hl)
set_option maxRecDepth 20000 in
theorem cl_sp_type {i : Int32} (hE : gOK E cc own ret hgt) (hm : cOK E l D G Q nL) (hd : decode cc pc = .ok (.iaload, 1)) (hi : vp_in i 250) (k : GW E (cW G σ) (pc + 1) L (.int (c_sp_type σ i.toNatClampNeg) :: st)) : GW E (cW G σ) pc L (.int i :: .ref (G.1 403) :: st) := fun H locs ls hP hD hS hl =>
  va_iald hE.1 hE.2.1 hE.2.2.2.2.2.2.2.2.1 hP 19 0 (cA := G.2 0) (n := 250) rfl (by rw [hm.2.2.2.1]; rfl) hi hd (k H locs ls hP hD hS hl)
set_option maxRecDepth 20000 in
theorem cn_sp_type (hE : gOK E cc own ret hgt) (hm : cOK E l D G Q nL) (hd : decode cc pc = .ok (.arraylength, 1)) (k : GW E (cW G σ) (pc + 1) L (.int 250 :: st)) : GW E (cW G σ) pc L (.ref (G.1 403) :: st) := fun H locs ls hP hD hS hl =>
  va_alen hE.1 hE.2.1 hE.2.2.2.2.2.2.2.2.1 hP 19 0 (cA := G.2 0) (x := (250, .inl (σ.2.2.1 402))) rfl (by rw [hm.2.2.2.1]; rfl) (show Int32.ofNat 250 = 250 by decide) hd (k H locs ls hP hD hS hl)
set_option maxRecDepth 20000 in
theorem cs_sp_type {i : Int32} {v : Int32} (hE : gOK E cc own ret hgt) (hm : cOK E l D G Q nL) (hd : decode cc pc = .ok (.iastore, 1)) (hi : vp_in i 250) {P : CS → Prop} (h : ∀ σ1 : CS, σ1 = c_sp_type_s σ i.toNatClampNeg v → P σ1) (k : ∀ σ1 : CS, P σ1 → GW E (cW G σ1) (pc + 1) L st) : GW E (cW G σ) pc L (.int v :: .int i :: .ref (G.1 403) :: st) := fun H locs ls hP hD hS hl =>
  va_iast hE.1 hE.2.1 hE.2.2.2.2.2.2.2.2.1 hP hD hS 19 0 (cA := G.2 0) (n := 250) rfl (by rw [hm.2.2.2.1]; rfl) hi hd (fun H locs hP hD hS => k _ (h _ rfl) H locs ls hP hD hS hl)
set_option maxRecDepth 20000 in
theorem cg_sp_at (hE : gOK E cc own ret hgt) (hm : cOK E l D G Q nL) (hlk : Cond.fieldLink own idx "FigureTexts$Figure" "at" "[I" ∈ gTb) (hd : decode cc pc = .ok (.getfield idx, 3)) (k : GW E (cW G σ) (pc + 3) L (.ref (G.1 404) :: st)) : GW E (cW G σ) pc L (.ref (G.1 400) :: st) := fun H locs ls hP hD hS hl =>
  va_get (D := eD E) (ci := 0) (fs := cF_sp G σ) (C := RX1) (T := TX1) (N := 18) hE.1 hE.2.1 hE.2.2.2.2.1 cIn_X1 hE.2.2.2.1 hE.2.2.2.2.2.2.2.2.1 hP 17 rfl (by rw [hm.2.2.1]; rfl) 3 (by decide) (hE.2.2.2.2.1 _ hlk) (fun _ h => h) rfl hd (k H locs ls hP hD hS hl)
set_option maxRecDepth 20000 in
theorem cl_sp_at {i : Int32} (hE : gOK E cc own ret hgt) (hm : cOK E l D G Q nL) (hd : decode cc pc = .ok (.iaload, 1)) (hi : vp_in i 250) (k : GW E (cW G σ) (pc + 1) L (.int (c_sp_at σ i.toNatClampNeg) :: st)) : GW E (cW G σ) pc L (.int i :: .ref (G.1 404) :: st) := fun H locs ls hP hD hS hl =>
  va_iald hE.1 hE.2.1 hE.2.2.2.2.2.2.2.2.1 hP 20 0 (cA := G.2 0) (n := 250) rfl (by rw [hm.2.2.2.1]; rfl) hi hd (k H locs ls hP hD hS hl)
set_option maxRecDepth 20000 in
theorem cn_sp_at (hE : gOK E cc own ret hgt) (hm : cOK E l D G Q nL) (hd : decode cc pc = .ok (.arraylength, 1)) (k : GW E (cW G σ) (pc + 1) L (.int 250 :: st)) : GW E (cW G σ) pc L (.ref (G.1 404) :: st) := fun H locs ls hP hD hS hl =>
  va_alen hE.1 hE.2.1 hE.2.2.2.2.2.2.2.2.1 hP 20 0 (cA := G.2 0) (x := (250, .inl (σ.2.2.1 403))) rfl (by rw [hm.2.2.2.1]; rfl) (show Int32.ofNat 250 = 250 by decide) hd (k H locs ls hP hD hS hl)
set_option maxRecDepth 20000 in
theorem cs_sp_at {i : Int32} {v : Int32} (hE : gOK E cc own ret hgt) (hm : cOK E l D G Q nL) (hd : decode cc pc = .ok (.iastore, 1)) (hi : vp_in i 250) {P : CS → Prop} (h : ∀ σ1 : CS, σ1 = c_sp_at_s σ i.toNatClampNeg v → P σ1) (k : ∀ σ1 : CS, P σ1 → GW E (cW G σ1) (pc + 1) L st) : GW E (cW G σ) pc L (.int v :: .int i :: .ref (G.1 404) :: st) := fun H locs ls hP hD hS hl =>
  va_iast hE.1 hE.2.1 hE.2.2.2.2.2.2.2.2.1 hP hD hS 20 0 (cA := G.2 0) (n := 250) rfl (by rw [hm.2.2.2.1]; rfl) hi hd (fun H locs hP hD hS => k _ (h _ rfl) H locs ls hP hD hS hl)
set_option maxRecDepth 20000 in
theorem cg_sp_data (hE : gOK E cc own ret hgt) (hm : cOK E l D G Q nL) (hlk : Cond.fieldLink own idx "FigureTexts$Figure" "data" "[I" ∈ gTb) (hd : decode cc pc = .ok (.getfield idx, 3)) (k : GW E (cW G σ) (pc + 3) L (.ref (G.1 405) :: st)) : GW E (cW G σ) pc L (.ref (G.1 400) :: st) := fun H locs ls hP hD hS hl =>
  va_get (D := eD E) (ci := 0) (fs := cF_sp G σ) (C := RX1) (T := TX1) (N := 18) hE.1 hE.2.1 hE.2.2.2.2.1 cIn_X1 hE.2.2.2.1 hE.2.2.2.2.2.2.2.2.1 hP 17 rfl (by rw [hm.2.2.1]; rfl) 4 (by decide) (hE.2.2.2.2.1 _ hlk) (fun _ h => h) rfl hd (k H locs ls hP hD hS hl)
set_option maxRecDepth 20000 in
theorem cl_sp_data {i : Int32} (hE : gOK E cc own ret hgt) (hm : cOK E l D G Q nL) (hd : decode cc pc = .ok (.iaload, 1)) (hi : vp_in i 250) (k : GW E (cW G σ) (pc + 1) L (.int (c_sp_data σ i.toNatClampNeg) :: st)) : GW E (cW G σ) pc L (.int i :: .ref (G.1 405) :: st) := fun H locs ls hP hD hS hl =>
  va_iald hE.1 hE.2.1 hE.2.2.2.2.2.2.2.2.1 hP 21 0 (cA := G.2 0) (n := 250) rfl (by rw [hm.2.2.2.1]; rfl) hi hd (k H locs ls hP hD hS hl)
set_option maxRecDepth 20000 in
theorem cn_sp_data (hE : gOK E cc own ret hgt) (hm : cOK E l D G Q nL) (hd : decode cc pc = .ok (.arraylength, 1)) (k : GW E (cW G σ) (pc + 1) L (.int 250 :: st)) : GW E (cW G σ) pc L (.ref (G.1 405) :: st) := fun H locs ls hP hD hS hl =>
  va_alen hE.1 hE.2.1 hE.2.2.2.2.2.2.2.2.1 hP 21 0 (cA := G.2 0) (x := (250, .inl (σ.2.2.1 404))) rfl (by rw [hm.2.2.2.1]; rfl) (show Int32.ofNat 250 = 250 by decide) hd (k H locs ls hP hD hS hl)
set_option maxRecDepth 20000 in
theorem cs_sp_data {i : Int32} {v : Int32} (hE : gOK E cc own ret hgt) (hm : cOK E l D G Q nL) (hd : decode cc pc = .ok (.iastore, 1)) (hi : vp_in i 250) {P : CS → Prop} (h : ∀ σ1 : CS, σ1 = c_sp_data_s σ i.toNatClampNeg v → P σ1) (k : ∀ σ1 : CS, P σ1 → GW E (cW G σ1) (pc + 1) L st) : GW E (cW G σ) pc L (.int v :: .int i :: .ref (G.1 405) :: st) := fun H locs ls hP hD hS hl =>
  va_iast hE.1 hE.2.1 hE.2.2.2.2.2.2.2.2.1 hP hD hS 21 0 (cA := G.2 0) (n := 250) rfl (by rw [hm.2.2.2.1]; rfl) hi hd (fun H locs hP hD hS => k _ (h _ rfl) H locs ls hP hD hS hl)
set_option maxRecDepth 20000 in
theorem cg_sp_first (hE : gOK E cc own ret hgt) (hm : cOK E l D G Q nL) (hlk : Cond.fieldLink own idx "FigureTexts$Figure" "first" "[I" ∈ gTb) (hd : decode cc pc = .ok (.getfield idx, 3)) (k : GW E (cW G σ) (pc + 3) L (.ref (G.1 406) :: st)) : GW E (cW G σ) pc L (.ref (G.1 400) :: st) := fun H locs ls hP hD hS hl =>
  va_get (D := eD E) (ci := 0) (fs := cF_sp G σ) (C := RX1) (T := TX1) (N := 18) hE.1 hE.2.1 hE.2.2.2.2.1 cIn_X1 hE.2.2.2.1 hE.2.2.2.2.2.2.2.2.1 hP 17 rfl (by rw [hm.2.2.1]; rfl) 5 (by decide) (hE.2.2.2.2.1 _ hlk) (fun _ h => h) rfl hd (k H locs ls hP hD hS hl)
set_option maxRecDepth 20000 in
theorem cl_sp_first {i : Int32} (hE : gOK E cc own ret hgt) (hm : cOK E l D G Q nL) (hd : decode cc pc = .ok (.iaload, 1)) (hi : vp_in i 250) (k : GW E (cW G σ) (pc + 1) L (.int (c_sp_first σ i.toNatClampNeg) :: st)) : GW E (cW G σ) pc L (.int i :: .ref (G.1 406) :: st) := fun H locs ls hP hD hS hl =>
  va_iald hE.1 hE.2.1 hE.2.2.2.2.2.2.2.2.1 hP 22 0 (cA := G.2 0) (n := 250) rfl (by rw [hm.2.2.2.1]; rfl) hi hd (k H locs ls hP hD hS hl)
set_option maxRecDepth 20000 in
theorem cn_sp_first (hE : gOK E cc own ret hgt) (hm : cOK E l D G Q nL) (hd : decode cc pc = .ok (.arraylength, 1)) (k : GW E (cW G σ) (pc + 1) L (.int 250 :: st)) : GW E (cW G σ) pc L (.ref (G.1 406) :: st) := fun H locs ls hP hD hS hl =>
  va_alen hE.1 hE.2.1 hE.2.2.2.2.2.2.2.2.1 hP 22 0 (cA := G.2 0) (x := (250, .inl (σ.2.2.1 405))) rfl (by rw [hm.2.2.2.1]; rfl) (show Int32.ofNat 250 = 250 by decide) hd (k H locs ls hP hD hS hl)
set_option maxRecDepth 20000 in
theorem cs_sp_first {i : Int32} {v : Int32} (hE : gOK E cc own ret hgt) (hm : cOK E l D G Q nL) (hd : decode cc pc = .ok (.iastore, 1)) (hi : vp_in i 250) {P : CS → Prop} (h : ∀ σ1 : CS, σ1 = c_sp_first_s σ i.toNatClampNeg v → P σ1) (k : ∀ σ1 : CS, P σ1 → GW E (cW G σ1) (pc + 1) L st) : GW E (cW G σ) pc L (.int v :: .int i :: .ref (G.1 406) :: st) := fun H locs ls hP hD hS hl =>
  va_iast hE.1 hE.2.1 hE.2.2.2.2.2.2.2.2.1 hP hD hS 22 0 (cA := G.2 0) (n := 250) rfl (by rw [hm.2.2.2.1]; rfl) hi hd (fun H locs hP hD hS => k _ (h _ rfl) H locs ls hP hD hS hl)
set_option maxRecDepth 20000 in
theorem cg_sp_next (hE : gOK E cc own ret hgt) (hm : cOK E l D G Q nL) (hlk : Cond.fieldLink own idx "FigureTexts$Figure" "next" "[I" ∈ gTb) (hd : decode cc pc = .ok (.getfield idx, 3)) (k : GW E (cW G σ) (pc + 3) L (.ref (G.1 407) :: st)) : GW E (cW G σ) pc L (.ref (G.1 400) :: st) := fun H locs ls hP hD hS hl =>
  va_get (D := eD E) (ci := 0) (fs := cF_sp G σ) (C := RX1) (T := TX1) (N := 18) hE.1 hE.2.1 hE.2.2.2.2.1 cIn_X1 hE.2.2.2.1 hE.2.2.2.2.2.2.2.2.1 hP 17 rfl (by rw [hm.2.2.1]; rfl) 6 (by decide) (hE.2.2.2.2.1 _ hlk) (fun _ h => h) rfl hd (k H locs ls hP hD hS hl)
set_option maxRecDepth 20000 in
theorem cl_sp_next {i : Int32} (hE : gOK E cc own ret hgt) (hm : cOK E l D G Q nL) (hd : decode cc pc = .ok (.iaload, 1)) (hi : vp_in i 250) (k : GW E (cW G σ) (pc + 1) L (.int (c_sp_next σ i.toNatClampNeg) :: st)) : GW E (cW G σ) pc L (.int i :: .ref (G.1 407) :: st) := fun H locs ls hP hD hS hl =>
  va_iald hE.1 hE.2.1 hE.2.2.2.2.2.2.2.2.1 hP 23 0 (cA := G.2 0) (n := 250) rfl (by rw [hm.2.2.2.1]; rfl) hi hd (k H locs ls hP hD hS hl)
set_option maxRecDepth 20000 in
theorem cn_sp_next (hE : gOK E cc own ret hgt) (hm : cOK E l D G Q nL) (hd : decode cc pc = .ok (.arraylength, 1)) (k : GW E (cW G σ) (pc + 1) L (.int 250 :: st)) : GW E (cW G σ) pc L (.ref (G.1 407) :: st) := fun H locs ls hP hD hS hl =>
  va_alen hE.1 hE.2.1 hE.2.2.2.2.2.2.2.2.1 hP 23 0 (cA := G.2 0) (x := (250, .inl (σ.2.2.1 406))) rfl (by rw [hm.2.2.2.1]; rfl) (show Int32.ofNat 250 = 250 by decide) hd (k H locs ls hP hD hS hl)
set_option maxRecDepth 20000 in
theorem cs_sp_next {i : Int32} {v : Int32} (hE : gOK E cc own ret hgt) (hm : cOK E l D G Q nL) (hd : decode cc pc = .ok (.iastore, 1)) (hi : vp_in i 250) {P : CS → Prop} (h : ∀ σ1 : CS, σ1 = c_sp_next_s σ i.toNatClampNeg v → P σ1) (k : ∀ σ1 : CS, P σ1 → GW E (cW G σ1) (pc + 1) L st) : GW E (cW G σ) pc L (.int v :: .int i :: .ref (G.1 407) :: st) := fun H locs ls hP hD hS hl =>
  va_iast hE.1 hE.2.1 hE.2.2.2.2.2.2.2.2.1 hP hD hS 23 0 (cA := G.2 0) (n := 250) rfl (by rw [hm.2.2.2.1]; rfl) hi hd (fun H locs hP hD hS => k _ (h _ rfl) H locs ls hP hD hS hl)
set_option maxRecDepth 20000 in
theorem cg_sp_body (hE : gOK E cc own ret hgt) (hm : cOK E l D G Q nL) (hlk : Cond.fieldLink own idx "FigureTexts$Figure" "body" "[I" ∈ gTb) (hd : decode cc pc = .ok (.getfield idx, 3)) (k : GW E (cW G σ) (pc + 3) L (.ref (G.1 408) :: st)) : GW E (cW G σ) pc L (.ref (G.1 400) :: st) := fun H locs ls hP hD hS hl =>
  va_get (D := eD E) (ci := 0) (fs := cF_sp G σ) (C := RX1) (T := TX1) (N := 18) hE.1 hE.2.1 hE.2.2.2.2.1 cIn_X1 hE.2.2.2.1 hE.2.2.2.2.2.2.2.2.1 hP 17 rfl (by rw [hm.2.2.1]; rfl) 7 (by decide) (hE.2.2.2.2.1 _ hlk) (fun _ h => h) rfl hd (k H locs ls hP hD hS hl)
set_option maxRecDepth 20000 in
theorem cl_sp_body {i : Int32} (hE : gOK E cc own ret hgt) (hm : cOK E l D G Q nL) (hd : decode cc pc = .ok (.iaload, 1)) (hi : vp_in i 250) (k : GW E (cW G σ) (pc + 1) L (.int (c_sp_body σ i.toNatClampNeg) :: st)) : GW E (cW G σ) pc L (.int i :: .ref (G.1 408) :: st) := fun H locs ls hP hD hS hl =>
  va_iald hE.1 hE.2.1 hE.2.2.2.2.2.2.2.2.1 hP 24 0 (cA := G.2 0) (n := 250) rfl (by rw [hm.2.2.2.1]; rfl) hi hd (k H locs ls hP hD hS hl)
set_option maxRecDepth 20000 in
theorem cn_sp_body (hE : gOK E cc own ret hgt) (hm : cOK E l D G Q nL) (hd : decode cc pc = .ok (.arraylength, 1)) (k : GW E (cW G σ) (pc + 1) L (.int 250 :: st)) : GW E (cW G σ) pc L (.ref (G.1 408) :: st) := fun H locs ls hP hD hS hl =>
  va_alen hE.1 hE.2.1 hE.2.2.2.2.2.2.2.2.1 hP 24 0 (cA := G.2 0) (x := (250, .inl (σ.2.2.1 407))) rfl (by rw [hm.2.2.2.1]; rfl) (show Int32.ofNat 250 = 250 by decide) hd (k H locs ls hP hD hS hl)
set_option maxRecDepth 20000 in
theorem cs_sp_body {i : Int32} {v : Int32} (hE : gOK E cc own ret hgt) (hm : cOK E l D G Q nL) (hd : decode cc pc = .ok (.iastore, 1)) (hi : vp_in i 250) {P : CS → Prop} (h : ∀ σ1 : CS, σ1 = c_sp_body_s σ i.toNatClampNeg v → P σ1) (k : ∀ σ1 : CS, P σ1 → GW E (cW G σ1) (pc + 1) L st) : GW E (cW G σ) pc L (.int v :: .int i :: .ref (G.1 408) :: st) := fun H locs ls hP hD hS hl =>
  va_iast hE.1 hE.2.1 hE.2.2.2.2.2.2.2.2.1 hP hD hS 24 0 (cA := G.2 0) (n := 250) rfl (by rw [hm.2.2.2.1]; rfl) hi hd (fun H locs hP hD hS => k _ (h _ rfl) H locs ls hP hD hS hl)
set_option maxRecDepth 20000 in
theorem cg_sp_other (hE : gOK E cc own ret hgt) (hm : cOK E l D G Q nL) (hlk : Cond.fieldLink own idx "FigureTexts$Figure" "other" "[I" ∈ gTb) (hd : decode cc pc = .ok (.getfield idx, 3)) (k : GW E (cW G σ) (pc + 3) L (.ref (G.1 409) :: st)) : GW E (cW G σ) pc L (.ref (G.1 400) :: st) := fun H locs ls hP hD hS hl =>
  va_get (D := eD E) (ci := 0) (fs := cF_sp G σ) (C := RX1) (T := TX1) (N := 18) hE.1 hE.2.1 hE.2.2.2.2.1 cIn_X1 hE.2.2.2.1 hE.2.2.2.2.2.2.2.2.1 hP 17 rfl (by rw [hm.2.2.1]; rfl) 8 (by decide) (hE.2.2.2.2.1 _ hlk) (fun _ h => h) rfl hd (k H locs ls hP hD hS hl)
set_option maxRecDepth 20000 in
theorem cl_sp_other {i : Int32} (hE : gOK E cc own ret hgt) (hm : cOK E l D G Q nL) (hd : decode cc pc = .ok (.iaload, 1)) (hi : vp_in i 250) (k : GW E (cW G σ) (pc + 1) L (.int (c_sp_other σ i.toNatClampNeg) :: st)) : GW E (cW G σ) pc L (.int i :: .ref (G.1 409) :: st) := fun H locs ls hP hD hS hl =>
  va_iald hE.1 hE.2.1 hE.2.2.2.2.2.2.2.2.1 hP 25 0 (cA := G.2 0) (n := 250) rfl (by rw [hm.2.2.2.1]; rfl) hi hd (k H locs ls hP hD hS hl)
set_option maxRecDepth 20000 in
theorem cn_sp_other (hE : gOK E cc own ret hgt) (hm : cOK E l D G Q nL) (hd : decode cc pc = .ok (.arraylength, 1)) (k : GW E (cW G σ) (pc + 1) L (.int 250 :: st)) : GW E (cW G σ) pc L (.ref (G.1 409) :: st) := fun H locs ls hP hD hS hl =>
  va_alen hE.1 hE.2.1 hE.2.2.2.2.2.2.2.2.1 hP 25 0 (cA := G.2 0) (x := (250, .inl (σ.2.2.1 408))) rfl (by rw [hm.2.2.2.1]; rfl) (show Int32.ofNat 250 = 250 by decide) hd (k H locs ls hP hD hS hl)
set_option maxRecDepth 20000 in
theorem cs_sp_other {i : Int32} {v : Int32} (hE : gOK E cc own ret hgt) (hm : cOK E l D G Q nL) (hd : decode cc pc = .ok (.iastore, 1)) (hi : vp_in i 250) {P : CS → Prop} (h : ∀ σ1 : CS, σ1 = c_sp_other_s σ i.toNatClampNeg v → P σ1) (k : ∀ σ1 : CS, P σ1 → GW E (cW G σ1) (pc + 1) L st) : GW E (cW G σ) pc L (.int v :: .int i :: .ref (G.1 409) :: st) := fun H locs ls hP hD hS hl =>
  va_iast hE.1 hE.2.1 hE.2.2.2.2.2.2.2.2.1 hP hD hS 25 0 (cA := G.2 0) (n := 250) rfl (by rw [hm.2.2.2.1]; rfl) hi hd (fun H locs hP hD hS => k _ (h _ rfl) H locs ls hP hD hS hl)
set_option maxRecDepth 20000 in
theorem cg_sp_nodes (hE : gOK E cc own ret hgt) (hm : cOK E l D G Q nL) (hlk : Cond.fieldLink own idx "FigureTexts$Figure" "nodes" "I" ∈ gTb) (hd : decode cc pc = .ok (.getfield idx, 3)) (k : GW E (cW G σ) (pc + 3) L (.int (c_sp_nodes σ) :: st)) : GW E (cW G σ) pc L (.ref (G.1 400) :: st) := fun H locs ls hP hD hS hl =>
  va_get (D := eD E) (ci := 0) (fs := cF_sp G σ) (C := RX1) (T := TX1) (N := 18) hE.1 hE.2.1 hE.2.2.2.2.1 cIn_X1 hE.2.2.2.1 hE.2.2.2.2.2.2.2.2.1 hP 17 rfl (by rw [hm.2.2.1]; rfl) 9 (by decide) (hE.2.2.2.2.1 _ hlk) (fun _ h => h) rfl hd (k H locs ls hP hD hS hl)
set_option maxRecDepth 20000 in
theorem cp_sp_nodes {v : Int32} (hE : gOK E cc own ret hgt) (hm : cOK E l D G Q nL) (hlk : Cond.fieldLink own idx "FigureTexts$Figure" "nodes" "I" ∈ gTb) (hd : decode cc pc = .ok (.putfield idx, 3)) {P : CS → Prop} (h : ∀ σ1 : CS, σ1 = c_sp_nodes_s σ v → P σ1) (k : ∀ σ1 : CS, P σ1 → GW E (cW G σ1) (pc + 3) L st) : GW E (cW G σ) pc L (.int v :: .ref (G.1 400) :: st) := fun H locs ls hP hD hS hl =>
  va_put (D := eD E) (ci := 0) (fs := cF_sp G σ) (v := .int v) (ty := .int) (C := RX1) (T := TX1) (N := 18) hE.1 hE.2.1 hE.2.2.2.2.1 cIn_X1 tyX1 tyX1_ok nmX1 hE.2.2.2.1 hE.2.2.2.2.2.2.2.2.1 hP hD hS 17 rfl (by rw [hm.2.2.1]; rfl) 9 (by decide) (hE.2.2.2.2.1 _ hlk) (fun _ h => h) rfl (by decide +kernel) rfl rfl (Nat.le_of_ble_eq_true rfl) hd (fun H locs hP hD hS => k _ (h _ rfl) H locs ls hP hD hS hl)
set_option maxRecDepth 20000 in
theorem cg_sp_deeds (hE : gOK E cc own ret hgt) (hm : cOK E l D G Q nL) (hlk : Cond.fieldLink own idx "FigureTexts$Figure" "deeds" "I" ∈ gTb) (hd : decode cc pc = .ok (.getfield idx, 3)) (k : GW E (cW G σ) (pc + 3) L (.int (c_sp_deeds σ) :: st)) : GW E (cW G σ) pc L (.ref (G.1 400) :: st) := fun H locs ls hP hD hS hl =>
  va_get (D := eD E) (ci := 0) (fs := cF_sp G σ) (C := RX1) (T := TX1) (N := 18) hE.1 hE.2.1 hE.2.2.2.2.1 cIn_X1 hE.2.2.2.1 hE.2.2.2.2.2.2.2.2.1 hP 17 rfl (by rw [hm.2.2.1]; rfl) 10 (by decide) (hE.2.2.2.2.1 _ hlk) (fun _ h => h) rfl hd (k H locs ls hP hD hS hl)
set_option maxRecDepth 20000 in
theorem cp_sp_deeds {v : Int32} (hE : gOK E cc own ret hgt) (hm : cOK E l D G Q nL) (hlk : Cond.fieldLink own idx "FigureTexts$Figure" "deeds" "I" ∈ gTb) (hd : decode cc pc = .ok (.putfield idx, 3)) {P : CS → Prop} (h : ∀ σ1 : CS, σ1 = c_sp_deeds_s σ v → P σ1) (k : ∀ σ1 : CS, P σ1 → GW E (cW G σ1) (pc + 3) L st) : GW E (cW G σ) pc L (.int v :: .ref (G.1 400) :: st) := fun H locs ls hP hD hS hl =>
  va_put (D := eD E) (ci := 0) (fs := cF_sp G σ) (v := .int v) (ty := .int) (C := RX1) (T := TX1) (N := 18) hE.1 hE.2.1 hE.2.2.2.2.1 cIn_X1 tyX1 tyX1_ok nmX1 hE.2.2.2.1 hE.2.2.2.2.2.2.2.2.1 hP hD hS 17 rfl (by rw [hm.2.2.1]; rfl) 10 (by decide) (hE.2.2.2.2.1 _ hlk) (fun _ h => h) rfl (by decide +kernel) rfl rfl (Nat.le_of_ble_eq_true rfl) hd (fun H locs hP hD hS => k _ (h _ rfl) H locs ls hP hD hS hl)
set_option maxRecDepth 20000 in
theorem cg_sp_firstDeed (hE : gOK E cc own ret hgt) (hm : cOK E l D G Q nL) (hlk : Cond.fieldLink own idx "FigureTexts$Figure" "firstDeed" "I" ∈ gTb) (hd : decode cc pc = .ok (.getfield idx, 3)) (k : GW E (cW G σ) (pc + 3) L (.int (c_sp_firstDeed σ) :: st)) : GW E (cW G σ) pc L (.ref (G.1 400) :: st) := fun H locs ls hP hD hS hl =>
  va_get (D := eD E) (ci := 0) (fs := cF_sp G σ) (C := RX1) (T := TX1) (N := 18) hE.1 hE.2.1 hE.2.2.2.2.1 cIn_X1 hE.2.2.2.1 hE.2.2.2.2.2.2.2.2.1 hP 17 rfl (by rw [hm.2.2.1]; rfl) 11 (by decide) (hE.2.2.2.2.1 _ hlk) (fun _ h => h) rfl hd (k H locs ls hP hD hS hl)
set_option maxRecDepth 20000 in
theorem cp_sp_firstDeed {v : Int32} (hE : gOK E cc own ret hgt) (hm : cOK E l D G Q nL) (hlk : Cond.fieldLink own idx "FigureTexts$Figure" "firstDeed" "I" ∈ gTb) (hd : decode cc pc = .ok (.putfield idx, 3)) {P : CS → Prop} (h : ∀ σ1 : CS, σ1 = c_sp_firstDeed_s σ v → P σ1) (k : ∀ σ1 : CS, P σ1 → GW E (cW G σ1) (pc + 3) L st) : GW E (cW G σ) pc L (.int v :: .ref (G.1 400) :: st) := fun H locs ls hP hD hS hl =>
  va_put (D := eD E) (ci := 0) (fs := cF_sp G σ) (v := .int v) (ty := .int) (C := RX1) (T := TX1) (N := 18) hE.1 hE.2.1 hE.2.2.2.2.1 cIn_X1 tyX1 tyX1_ok nmX1 hE.2.2.2.1 hE.2.2.2.2.2.2.2.2.1 hP hD hS 17 rfl (by rw [hm.2.2.1]; rfl) 11 (by decide) (hE.2.2.2.2.1 _ hlk) (fun _ h => h) rfl (by decide +kernel) rfl rfl (Nat.le_of_ble_eq_true rfl) hd (fun H locs hP hD hS => k _ (h _ rfl) H locs ls hP hD hS hl)
set_option maxRecDepth 20000 in
theorem cg_sp_nameAt (hE : gOK E cc own ret hgt) (hm : cOK E l D G Q nL) (hlk : Cond.fieldLink own idx "FigureTexts$Figure" "nameAt" "[I" ∈ gTb) (hd : decode cc pc = .ok (.getfield idx, 3)) (k : GW E (cW G σ) (pc + 3) L (.ref (G.1 413) :: st)) : GW E (cW G σ) pc L (.ref (G.1 400) :: st) := fun H locs ls hP hD hS hl =>
  va_get (D := eD E) (ci := 0) (fs := cF_sp G σ) (C := RX1) (T := TX1) (N := 18) hE.1 hE.2.1 hE.2.2.2.2.1 cIn_X1 hE.2.2.2.1 hE.2.2.2.2.2.2.2.2.1 hP 17 rfl (by rw [hm.2.2.1]; rfl) 12 (by decide) (hE.2.2.2.2.1 _ hlk) (fun _ h => h) rfl hd (k H locs ls hP hD hS hl)
set_option maxRecDepth 20000 in
theorem cl_sp_nameAt {i : Int32} (hE : gOK E cc own ret hgt) (hm : cOK E l D G Q nL) (hd : decode cc pc = .ok (.iaload, 1)) (hi : vp_in i 260) (k : GW E (cW G σ) (pc + 1) L (.int (c_sp_nameAt σ i.toNatClampNeg) :: st)) : GW E (cW G σ) pc L (.int i :: .ref (G.1 413) :: st) := fun H locs ls hP hD hS hl =>
  va_iald hE.1 hE.2.1 hE.2.2.2.2.2.2.2.2.1 hP 26 0 (cA := G.2 0) (n := 260) rfl (by rw [hm.2.2.2.1]; rfl) hi hd (k H locs ls hP hD hS hl)
set_option maxRecDepth 20000 in
theorem cn_sp_nameAt (hE : gOK E cc own ret hgt) (hm : cOK E l D G Q nL) (hd : decode cc pc = .ok (.arraylength, 1)) (k : GW E (cW G σ) (pc + 1) L (.int 260 :: st)) : GW E (cW G σ) pc L (.ref (G.1 413) :: st) := fun H locs ls hP hD hS hl =>
  va_alen hE.1 hE.2.1 hE.2.2.2.2.2.2.2.2.1 hP 26 0 (cA := G.2 0) (x := (260, .inl (σ.2.2.1 412))) rfl (by rw [hm.2.2.2.1]; rfl) (show Int32.ofNat 260 = 260 by decide) hd (k H locs ls hP hD hS hl)
set_option maxRecDepth 20000 in
theorem cs_sp_nameAt {i : Int32} {v : Int32} (hE : gOK E cc own ret hgt) (hm : cOK E l D G Q nL) (hd : decode cc pc = .ok (.iastore, 1)) (hi : vp_in i 260) {P : CS → Prop} (h : ∀ σ1 : CS, σ1 = c_sp_nameAt_s σ i.toNatClampNeg v → P σ1) (k : ∀ σ1 : CS, P σ1 → GW E (cW G σ1) (pc + 1) L st) : GW E (cW G σ) pc L (.int v :: .int i :: .ref (G.1 413) :: st) := fun H locs ls hP hD hS hl =>
  va_iast hE.1 hE.2.1 hE.2.2.2.2.2.2.2.2.1 hP hD hS 26 0 (cA := G.2 0) (n := 260) rfl (by rw [hm.2.2.2.1]; rfl) hi hd (fun H locs hP hD hS => k _ (h _ rfl) H locs ls hP hD hS hl)
set_option maxRecDepth 20000 in
theorem cg_sp_names (hE : gOK E cc own ret hgt) (hm : cOK E l D G Q nL) (hlk : Cond.fieldLink own idx "FigureTexts$Figure" "names" "[I" ∈ gTb) (hd : decode cc pc = .ok (.getfield idx, 3)) (k : GW E (cW G σ) (pc + 3) L (.ref (G.1 414) :: st)) : GW E (cW G σ) pc L (.ref (G.1 400) :: st) := fun H locs ls hP hD hS hl =>
  va_get (D := eD E) (ci := 0) (fs := cF_sp G σ) (C := RX1) (T := TX1) (N := 18) hE.1 hE.2.1 hE.2.2.2.2.1 cIn_X1 hE.2.2.2.1 hE.2.2.2.2.2.2.2.2.1 hP 17 rfl (by rw [hm.2.2.1]; rfl) 13 (by decide) (hE.2.2.2.2.1 _ hlk) (fun _ h => h) rfl hd (k H locs ls hP hD hS hl)
set_option maxRecDepth 20000 in
theorem cl_sp_names {i : Int32} (hE : gOK E cc own ret hgt) (hm : cOK E l D G Q nL) (hd : decode cc pc = .ok (.iaload, 1)) (hi : vp_in i 13) (k : GW E (cW G σ) (pc + 1) L (.int (c_sp_names σ i.toNatClampNeg) :: st)) : GW E (cW G σ) pc L (.int i :: .ref (G.1 414) :: st) := fun H locs ls hP hD hS hl =>
  va_iald hE.1 hE.2.1 hE.2.2.2.2.2.2.2.2.1 hP 27 0 (cA := G.2 0) (n := 13) rfl (by rw [hm.2.2.2.1]; rfl) hi hd (k H locs ls hP hD hS hl)
set_option maxRecDepth 20000 in
theorem cn_sp_names (hE : gOK E cc own ret hgt) (hm : cOK E l D G Q nL) (hd : decode cc pc = .ok (.arraylength, 1)) (k : GW E (cW G σ) (pc + 1) L (.int 13 :: st)) : GW E (cW G σ) pc L (.ref (G.1 414) :: st) := fun H locs ls hP hD hS hl =>
  va_alen hE.1 hE.2.1 hE.2.2.2.2.2.2.2.2.1 hP 27 0 (cA := G.2 0) (x := (13, .inl (σ.2.2.1 413))) rfl (by rw [hm.2.2.2.1]; rfl) (show Int32.ofNat 13 = 13 by decide) hd (k H locs ls hP hD hS hl)
set_option maxRecDepth 20000 in
theorem cs_sp_names {i : Int32} {v : Int32} (hE : gOK E cc own ret hgt) (hm : cOK E l D G Q nL) (hd : decode cc pc = .ok (.iastore, 1)) (hi : vp_in i 13) {P : CS → Prop} (h : ∀ σ1 : CS, σ1 = c_sp_names_s σ i.toNatClampNeg v → P σ1) (k : ∀ σ1 : CS, P σ1 → GW E (cW G σ1) (pc + 1) L st) : GW E (cW G σ) pc L (.int v :: .int i :: .ref (G.1 414) :: st) := fun H locs ls hP hD hS hl =>
  va_iast hE.1 hE.2.1 hE.2.2.2.2.2.2.2.2.1 hP hD hS 27 0 (cA := G.2 0) (n := 13) rfl (by rw [hm.2.2.2.1]; rfl) hi hd (fun H locs hP hD hS => k _ (h _ rfl) H locs ls hP hD hS hl)
set_option maxRecDepth 20000 in
theorem cg_sp_params (hE : gOK E cc own ret hgt) (hm : cOK E l D G Q nL) (hlk : Cond.fieldLink own idx "FigureTexts$Figure" "params" "[I" ∈ gTb) (hd : decode cc pc = .ok (.getfield idx, 3)) (k : GW E (cW G σ) (pc + 3) L (.ref (G.1 415) :: st)) : GW E (cW G σ) pc L (.ref (G.1 400) :: st) := fun H locs ls hP hD hS hl =>
  va_get (D := eD E) (ci := 0) (fs := cF_sp G σ) (C := RX1) (T := TX1) (N := 18) hE.1 hE.2.1 hE.2.2.2.2.1 cIn_X1 hE.2.2.2.1 hE.2.2.2.2.2.2.2.2.1 hP 17 rfl (by rw [hm.2.2.1]; rfl) 14 (by decide) (hE.2.2.2.2.1 _ hlk) (fun _ h => h) rfl hd (k H locs ls hP hD hS hl)
set_option maxRecDepth 20000 in
theorem cl_sp_params {i : Int32} (hE : gOK E cc own ret hgt) (hm : cOK E l D G Q nL) (hd : decode cc pc = .ok (.iaload, 1)) (hi : vp_in i 12) (k : GW E (cW G σ) (pc + 1) L (.int (c_sp_params σ i.toNatClampNeg) :: st)) : GW E (cW G σ) pc L (.int i :: .ref (G.1 415) :: st) := fun H locs ls hP hD hS hl =>
  va_iald hE.1 hE.2.1 hE.2.2.2.2.2.2.2.2.1 hP 28 0 (cA := G.2 0) (n := 12) rfl (by rw [hm.2.2.2.1]; rfl) hi hd (k H locs ls hP hD hS hl)
set_option maxRecDepth 20000 in
theorem cn_sp_params (hE : gOK E cc own ret hgt) (hm : cOK E l D G Q nL) (hd : decode cc pc = .ok (.arraylength, 1)) (k : GW E (cW G σ) (pc + 1) L (.int 12 :: st)) : GW E (cW G σ) pc L (.ref (G.1 415) :: st) := fun H locs ls hP hD hS hl =>
  va_alen hE.1 hE.2.1 hE.2.2.2.2.2.2.2.2.1 hP 28 0 (cA := G.2 0) (x := (12, .inl (σ.2.2.1 414))) rfl (by rw [hm.2.2.2.1]; rfl) (show Int32.ofNat 12 = 12 by decide) hd (k H locs ls hP hD hS hl)
set_option maxRecDepth 20000 in
theorem cs_sp_params {i : Int32} {v : Int32} (hE : gOK E cc own ret hgt) (hm : cOK E l D G Q nL) (hd : decode cc pc = .ok (.iastore, 1)) (hi : vp_in i 12) {P : CS → Prop} (h : ∀ σ1 : CS, σ1 = c_sp_params_s σ i.toNatClampNeg v → P σ1) (k : ∀ σ1 : CS, P σ1 → GW E (cW G σ1) (pc + 1) L st) : GW E (cW G σ) pc L (.int v :: .int i :: .ref (G.1 415) :: st) := fun H locs ls hP hD hS hl =>
  va_iast hE.1 hE.2.1 hE.2.2.2.2.2.2.2.2.1 hP hD hS 28 0 (cA := G.2 0) (n := 12) rfl (by rw [hm.2.2.2.1]; rfl) hi hd (fun H locs hP hD hS => k _ (h _ rfl) H locs ls hP hD hS hl)
set_option maxRecDepth 20000 in
theorem cg_sp_macroAt (hE : gOK E cc own ret hgt) (hm : cOK E l D G Q nL) (hlk : Cond.fieldLink own idx "FigureTexts$Figure" "macroAt" "[I" ∈ gTb) (hd : decode cc pc = .ok (.getfield idx, 3)) (k : GW E (cW G σ) (pc + 3) L (.ref (G.1 416) :: st)) : GW E (cW G σ) pc L (.ref (G.1 400) :: st) := fun H locs ls hP hD hS hl =>
  va_get (D := eD E) (ci := 0) (fs := cF_sp G σ) (C := RX1) (T := TX1) (N := 18) hE.1 hE.2.1 hE.2.2.2.2.1 cIn_X1 hE.2.2.2.1 hE.2.2.2.2.2.2.2.2.1 hP 17 rfl (by rw [hm.2.2.1]; rfl) 15 (by decide) (hE.2.2.2.2.1 _ hlk) (fun _ h => h) rfl hd (k H locs ls hP hD hS hl)
set_option maxRecDepth 20000 in
theorem cl_sp_macroAt {i : Int32} (hE : gOK E cc own ret hgt) (hm : cOK E l D G Q nL) (hd : decode cc pc = .ok (.iaload, 1)) (hi : vp_in i 12) (k : GW E (cW G σ) (pc + 1) L (.int (c_sp_macroAt σ i.toNatClampNeg) :: st)) : GW E (cW G σ) pc L (.int i :: .ref (G.1 416) :: st) := fun H locs ls hP hD hS hl =>
  va_iald hE.1 hE.2.1 hE.2.2.2.2.2.2.2.2.1 hP 29 0 (cA := G.2 0) (n := 12) rfl (by rw [hm.2.2.2.1]; rfl) hi hd (k H locs ls hP hD hS hl)
set_option maxRecDepth 20000 in
theorem cn_sp_macroAt (hE : gOK E cc own ret hgt) (hm : cOK E l D G Q nL) (hd : decode cc pc = .ok (.arraylength, 1)) (k : GW E (cW G σ) (pc + 1) L (.int 12 :: st)) : GW E (cW G σ) pc L (.ref (G.1 416) :: st) := fun H locs ls hP hD hS hl =>
  va_alen hE.1 hE.2.1 hE.2.2.2.2.2.2.2.2.1 hP 29 0 (cA := G.2 0) (x := (12, .inl (σ.2.2.1 415))) rfl (by rw [hm.2.2.2.1]; rfl) (show Int32.ofNat 12 = 12 by decide) hd (k H locs ls hP hD hS hl)
set_option maxRecDepth 20000 in
theorem cs_sp_macroAt {i : Int32} {v : Int32} (hE : gOK E cc own ret hgt) (hm : cOK E l D G Q nL) (hd : decode cc pc = .ok (.iastore, 1)) (hi : vp_in i 12) {P : CS → Prop} (h : ∀ σ1 : CS, σ1 = c_sp_macroAt_s σ i.toNatClampNeg v → P σ1) (k : ∀ σ1 : CS, P σ1 → GW E (cW G σ1) (pc + 1) L st) : GW E (cW G σ) pc L (.int v :: .int i :: .ref (G.1 416) :: st) := fun H locs ls hP hD hS hl =>
  va_iast hE.1 hE.2.1 hE.2.2.2.2.2.2.2.2.1 hP hD hS 29 0 (cA := G.2 0) (n := 12) rfl (by rw [hm.2.2.2.1]; rfl) hi hd (fun H locs hP hD hS => k _ (h _ rfl) H locs ls hP hD hS hl)
set_option maxRecDepth 20000 in
theorem cg_sp_macroBody (hE : gOK E cc own ret hgt) (hm : cOK E l D G Q nL) (hlk : Cond.fieldLink own idx "FigureTexts$Figure" "macroBody" "[I" ∈ gTb) (hd : decode cc pc = .ok (.getfield idx, 3)) (k : GW E (cW G σ) (pc + 3) L (.ref (G.1 417) :: st)) : GW E (cW G σ) pc L (.ref (G.1 400) :: st) := fun H locs ls hP hD hS hl =>
  va_get (D := eD E) (ci := 0) (fs := cF_sp G σ) (C := RX1) (T := TX1) (N := 18) hE.1 hE.2.1 hE.2.2.2.2.1 cIn_X1 hE.2.2.2.1 hE.2.2.2.2.2.2.2.2.1 hP 17 rfl (by rw [hm.2.2.1]; rfl) 16 (by decide) (hE.2.2.2.2.1 _ hlk) (fun _ h => h) rfl hd (k H locs ls hP hD hS hl)
set_option maxRecDepth 20000 in
theorem cl_sp_macroBody {i : Int32} (hE : gOK E cc own ret hgt) (hm : cOK E l D G Q nL) (hd : decode cc pc = .ok (.iaload, 1)) (hi : vp_in i 12) (k : GW E (cW G σ) (pc + 1) L (.int (c_sp_macroBody σ i.toNatClampNeg) :: st)) : GW E (cW G σ) pc L (.int i :: .ref (G.1 417) :: st) := fun H locs ls hP hD hS hl =>
  va_iald hE.1 hE.2.1 hE.2.2.2.2.2.2.2.2.1 hP 30 0 (cA := G.2 0) (n := 12) rfl (by rw [hm.2.2.2.1]; rfl) hi hd (k H locs ls hP hD hS hl)
set_option maxRecDepth 20000 in
theorem cn_sp_macroBody (hE : gOK E cc own ret hgt) (hm : cOK E l D G Q nL) (hd : decode cc pc = .ok (.arraylength, 1)) (k : GW E (cW G σ) (pc + 1) L (.int 12 :: st)) : GW E (cW G σ) pc L (.ref (G.1 417) :: st) := fun H locs ls hP hD hS hl =>
  va_alen hE.1 hE.2.1 hE.2.2.2.2.2.2.2.2.1 hP 30 0 (cA := G.2 0) (x := (12, .inl (σ.2.2.1 416))) rfl (by rw [hm.2.2.2.1]; rfl) (show Int32.ofNat 12 = 12 by decide) hd (k H locs ls hP hD hS hl)
set_option maxRecDepth 20000 in
theorem cs_sp_macroBody {i : Int32} {v : Int32} (hE : gOK E cc own ret hgt) (hm : cOK E l D G Q nL) (hd : decode cc pc = .ok (.iastore, 1)) (hi : vp_in i 12) {P : CS → Prop} (h : ∀ σ1 : CS, σ1 = c_sp_macroBody_s σ i.toNatClampNeg v → P σ1) (k : ∀ σ1 : CS, P σ1 → GW E (cW G σ1) (pc + 1) L st) : GW E (cW G σ) pc L (.int v :: .int i :: .ref (G.1 417) :: st) := fun H locs ls hP hD hS hl =>
  va_iast hE.1 hE.2.1 hE.2.2.2.2.2.2.2.2.1 hP hD hS 30 0 (cA := G.2 0) (n := 12) rfl (by rw [hm.2.2.2.1]; rfl) hi hd (fun H locs hP hD hS => k _ (h _ rfl) H locs ls hP hD hS hl)
set_option maxRecDepth 20000 in
theorem cg_sp_macros (hE : gOK E cc own ret hgt) (hm : cOK E l D G Q nL) (hlk : Cond.fieldLink own idx "FigureTexts$Figure" "macros" "I" ∈ gTb) (hd : decode cc pc = .ok (.getfield idx, 3)) (k : GW E (cW G σ) (pc + 3) L (.int (c_sp_macros σ) :: st)) : GW E (cW G σ) pc L (.ref (G.1 400) :: st) := fun H locs ls hP hD hS hl =>
  va_get (D := eD E) (ci := 0) (fs := cF_sp G σ) (C := RX1) (T := TX1) (N := 18) hE.1 hE.2.1 hE.2.2.2.2.1 cIn_X1 hE.2.2.2.1 hE.2.2.2.2.2.2.2.2.1 hP 17 rfl (by rw [hm.2.2.1]; rfl) 17 (by decide) (hE.2.2.2.2.1 _ hlk) (fun _ h => h) rfl hd (k H locs ls hP hD hS hl)
set_option maxRecDepth 20000 in
theorem cp_sp_macros {v : Int32} (hE : gOK E cc own ret hgt) (hm : cOK E l D G Q nL) (hlk : Cond.fieldLink own idx "FigureTexts$Figure" "macros" "I" ∈ gTb) (hd : decode cc pc = .ok (.putfield idx, 3)) {P : CS → Prop} (h : ∀ σ1 : CS, σ1 = c_sp_macros_s σ v → P σ1) (k : ∀ σ1 : CS, P σ1 → GW E (cW G σ1) (pc + 3) L st) : GW E (cW G σ) pc L (.int v :: .ref (G.1 400) :: st) := fun H locs ls hP hD hS hl =>
  va_put (D := eD E) (ci := 0) (fs := cF_sp G σ) (v := .int v) (ty := .int) (C := RX1) (T := TX1) (N := 18) hE.1 hE.2.1 hE.2.2.2.2.1 cIn_X1 tyX1 tyX1_ok nmX1 hE.2.2.2.1 hE.2.2.2.2.2.2.2.2.1 hP hD hS 17 rfl (by rw [hm.2.2.1]; rfl) 17 (by decide) (hE.2.2.2.2.1 _ hlk) (fun _ h => h) rfl (by decide +kernel) rfl rfl (Nat.le_of_ble_eq_true rfl) hd (fun H locs hP hD hS => k _ (h _ rfl) H locs ls hP hD hS hl)
set_option maxRecDepth 20000 in
theorem cg_ou_bytes (hE : gOK E cc own ret hgt) (hm : cOK E l D G Q nL) (hlk : Cond.fieldLink own idx "FigureTexts$Out" "bytes" "[B" ∈ gTb) (hd : decode cc pc = .ok (.getfield idx, 3)) (k : GW E (cW G σ) (pc + 3) L (.ref (G.1 501) :: st)) : GW E (cW G σ) pc L (.ref (G.1 500) :: st) := fun H locs ls hP hD hS hl =>
  va_get (D := eD E) (ci := 2) (fs := cF_ou G σ) (C := RX3) (T := TX3) (N := 3) hE.1 hE.2.1 hE.2.2.2.2.1 cIn_X3 hE.2.2.2.1 hE.2.2.2.2.2.2.2.2.1 hP 31 rfl (by rw [hm.2.2.1]; rfl) 0 (by decide) (hE.2.2.2.2.1 _ hlk) (fun _ h => h) rfl hd (k H locs ls hP hD hS hl)
set_option maxRecDepth 20000 in
theorem cl_ou_bytes {i : Int32} (hE : gOK E cc own ret hgt) (hm : cOK E l D G Q nL) (hd : decode cc pc = .ok (.baload, 1)) (hi : vp_in i 16000) (k : GW E (cW G σ) (pc + 1) L (.int (c_ou_bytes σ i.toNatClampNeg) :: st)) : GW E (cW G σ) pc L (.int i :: .ref (G.1 501) :: st) := fun H locs ls hP hD hS hl =>
  va_bald hE.1 hE.2.1 hE.2.2.2.2.2.2.2.2.1 hP 32 2 (cA := G.2 2) (n := 16000) rfl (by rw [hm.2.2.2.1]; rfl) hi hd (k H locs ls hP hD hS hl)
set_option maxRecDepth 20000 in
theorem cn_ou_bytes (hE : gOK E cc own ret hgt) (hm : cOK E l D G Q nL) (hd : decode cc pc = .ok (.arraylength, 1)) (k : GW E (cW G σ) (pc + 1) L (.int 16000 :: st)) : GW E (cW G σ) pc L (.ref (G.1 501) :: st) := fun H locs ls hP hD hS hl =>
  va_alen hE.1 hE.2.1 hE.2.2.2.2.2.2.2.2.1 hP 32 2 (cA := G.2 2) (x := (16000, .inl (σ.2.2.1 500))) rfl (by rw [hm.2.2.2.1]; rfl) (show Int32.ofNat 16000 = 16000 by decide) hd (k H locs ls hP hD hS hl)
set_option maxRecDepth 20000 in
theorem cs_ou_bytes {i : Int32} {v : Int32} (hE : gOK E cc own ret hgt) (hm : cOK E l D G Q nL) (hd : decode cc pc = .ok (.bastore, 1)) (hi : vp_in i 16000) {P : CS → Prop} (h : ∀ σ1 : CS, σ1 = c_ou_bytes_s σ i.toNatClampNeg (v.toInt8.toInt32) → P σ1) (k : ∀ σ1 : CS, P σ1 → GW E (cW G σ1) (pc + 1) L st) : GW E (cW G σ) pc L (.int v :: .int i :: .ref (G.1 501) :: st) := fun H locs ls hP hD hS hl =>
  va_bast hE.1 hE.2.1 hE.2.2.2.2.2.2.2.2.1 hP hD hS 32 2 (cA := G.2 2) (n := 16000) rfl (by rw [hm.2.2.2.1]; rfl) hi hd (fun H locs hP hD hS => k _ (h _ rfl) H locs ls (by rw [vp_nar_byte] at hP; exact hP) (by rw [vp_nar_byte] at hD; exact hD) hS hl)
set_option maxRecDepth 20000 in
theorem cg_ou_digits (hE : gOK E cc own ret hgt) (hm : cOK E l D G Q nL) (hlk : Cond.fieldLink own idx "FigureTexts$Out" "digits" "[C" ∈ gTb) (hd : decode cc pc = .ok (.getfield idx, 3)) (k : GW E (cW G σ) (pc + 3) L (.ref (G.1 502) :: st)) : GW E (cW G σ) pc L (.ref (G.1 500) :: st) := fun H locs ls hP hD hS hl =>
  va_get (D := eD E) (ci := 2) (fs := cF_ou G σ) (C := RX3) (T := TX3) (N := 3) hE.1 hE.2.1 hE.2.2.2.2.1 cIn_X3 hE.2.2.2.1 hE.2.2.2.2.2.2.2.2.1 hP 31 rfl (by rw [hm.2.2.1]; rfl) 1 (by decide) (hE.2.2.2.2.1 _ hlk) (fun _ h => h) rfl hd (k H locs ls hP hD hS hl)
set_option maxRecDepth 20000 in
theorem cl_ou_digits {i : Int32} (hE : gOK E cc own ret hgt) (hm : cOK E l D G Q nL) (hd : decode cc pc = .ok (.caload, 1)) (hi : vp_in i 20) (k : GW E (cW G σ) (pc + 1) L (.int (c_ou_digits σ i.toNatClampNeg) :: st)) : GW E (cW G σ) pc L (.int i :: .ref (G.1 502) :: st) := fun H locs ls hP hD hS hl =>
  va_cald hE.1 hE.2.1 hE.2.2.2.2.2.2.2.2.1 hP 33 3 (cA := G.2 3) (n := 20) rfl (by rw [hm.2.2.2.1]; rfl) hi hd (k H locs ls hP hD hS hl)
set_option maxRecDepth 20000 in
theorem cn_ou_digits (hE : gOK E cc own ret hgt) (hm : cOK E l D G Q nL) (hd : decode cc pc = .ok (.arraylength, 1)) (k : GW E (cW G σ) (pc + 1) L (.int 20 :: st)) : GW E (cW G σ) pc L (.ref (G.1 502) :: st) := fun H locs ls hP hD hS hl =>
  va_alen hE.1 hE.2.1 hE.2.2.2.2.2.2.2.2.1 hP 33 3 (cA := G.2 3) (x := (20, .inl (σ.2.2.1 501))) rfl (by rw [hm.2.2.2.1]; rfl) (show Int32.ofNat 20 = 20 by decide) hd (k H locs ls hP hD hS hl)
set_option maxRecDepth 20000 in
theorem cs_ou_digits {i : Int32} {v : Int32} (hE : gOK E cc own ret hgt) (hm : cOK E l D G Q nL) (hd : decode cc pc = .ok (.castore, 1)) (hi : vp_in i 20) {P : CS → Prop} (h : ∀ σ1 : CS, σ1 = c_ou_digits_s σ i.toNatClampNeg (v.toUInt32.toUInt16.toUInt32.toInt32) → P σ1) (k : ∀ σ1 : CS, P σ1 → GW E (cW G σ1) (pc + 1) L st) : GW E (cW G σ) pc L (.int v :: .int i :: .ref (G.1 502) :: st) := fun H locs ls hP hD hS hl =>
  va_cast hE.1 hE.2.1 hE.2.2.2.2.2.2.2.2.1 hP hD hS 33 3 (cA := G.2 3) (n := 20) rfl (by rw [hm.2.2.2.1]; rfl) hi hd (fun H locs hP hD hS => k _ (h _ rfl) H locs ls (by rw [vp_nar_char] at hP; exact hP) (by rw [vp_nar_char] at hD; exact hD) hS hl)
set_option maxRecDepth 20000 in
theorem cg_ou_length (hE : gOK E cc own ret hgt) (hm : cOK E l D G Q nL) (hlk : Cond.fieldLink own idx "FigureTexts$Out" "length" "I" ∈ gTb) (hd : decode cc pc = .ok (.getfield idx, 3)) (k : GW E (cW G σ) (pc + 3) L (.int (c_ou_length σ) :: st)) : GW E (cW G σ) pc L (.ref (G.1 500) :: st) := fun H locs ls hP hD hS hl =>
  va_get (D := eD E) (ci := 2) (fs := cF_ou G σ) (C := RX3) (T := TX3) (N := 3) hE.1 hE.2.1 hE.2.2.2.2.1 cIn_X3 hE.2.2.2.1 hE.2.2.2.2.2.2.2.2.1 hP 31 rfl (by rw [hm.2.2.1]; rfl) 2 (by decide) (hE.2.2.2.2.1 _ hlk) (fun _ h => h) rfl hd (k H locs ls hP hD hS hl)
set_option maxRecDepth 20000 in
theorem cp_ou_length {v : Int32} (hE : gOK E cc own ret hgt) (hm : cOK E l D G Q nL) (hlk : Cond.fieldLink own idx "FigureTexts$Out" "length" "I" ∈ gTb) (hd : decode cc pc = .ok (.putfield idx, 3)) {P : CS → Prop} (h : ∀ σ1 : CS, σ1 = c_ou_length_s σ v → P σ1) (k : ∀ σ1 : CS, P σ1 → GW E (cW G σ1) (pc + 3) L st) : GW E (cW G σ) pc L (.int v :: .ref (G.1 500) :: st) := fun H locs ls hP hD hS hl =>
  va_put (D := eD E) (ci := 2) (fs := cF_ou G σ) (v := .int v) (ty := .int) (C := RX3) (T := TX3) (N := 3) hE.1 hE.2.1 hE.2.2.2.2.1 cIn_X3 tyX3 tyX3_ok nmX3 hE.2.2.2.1 hE.2.2.2.2.2.2.2.2.1 hP hD hS 31 rfl (by rw [hm.2.2.1]; rfl) 2 (by decide) (hE.2.2.2.2.1 _ hlk) (fun _ h => h) rfl (by decide +kernel) rfl rfl (Nat.le_of_ble_eq_true rfl) hd (fun H locs hP hD hS => k _ (h _ rfl) H locs ls hP hD hS hl)
set_option maxRecDepth 20000 in
theorem cg_rd_figure (hE : gOK E cc own ret hgt) (hm : cOK E l D G Q nL) (hlk : Cond.fieldLink own idx "FigureTexts$Reader" "figure" "LFigureTexts$Figure;" ∈ gTb) (hd : decode cc pc = .ok (.getfield idx, 3)) {j : Nat} (hj : c_rd_figure σ = j) (k : GW E (cW G σ) (pc + 3) L (.ref (G.1 j) :: st)) : GW E (cW G σ) pc L (.ref (G.1 600) :: st) := by subst hj; exact (fun H locs ls hP hD hS hl =>
  va_get (D := eD E) (ci := 4) (fs := cF_rd G σ) (C := RX5) (T := TX5) (N := 9) hE.1 hE.2.1 hE.2.2.2.2.1 cIn_X5 hE.2.2.2.1 hE.2.2.2.2.2.2.2.2.1 hP 34 rfl (by rw [hm.2.2.1]; rfl) 0 (by decide) (hE.2.2.2.2.1 _ hlk) (fun _ h => h) rfl hd (k H locs ls hP hD hS hl))
set_option maxRecDepth 20000 in
theorem cp_rd_figure {v : Nat} (hE : gOK E cc own ret hgt) (hm : cOK E l D G Q nL) (hlk : Cond.fieldLink own idx "FigureTexts$Reader" "figure" "LFigureTexts$Figure;" ∈ gTb) (hd : decode cc pc = .ok (.putfield idx, 3)) {P : CS → Prop} (h : ∀ σ1 : CS, σ1 = c_rd_figure_s σ v → P σ1) (k : ∀ σ1 : CS, P σ1 → GW E (cW G σ1) (pc + 3) L st) : GW E (cW G σ) pc L (.ref (G.1 v) :: .ref (G.1 600) :: st) := fun H locs ls hP hD hS hl =>
  va_put (D := eD E) (ci := 4) (fs := cF_rd G σ) (v := .ref (G.1 v)) (ty := .object "FigureTexts$Figure") (C := RX5) (T := TX5) (N := 9) hE.1 hE.2.1 hE.2.2.2.2.1 cIn_X5 tyX5 tyX5_ok nmX5 hE.2.2.2.1 hE.2.2.2.2.2.2.2.2.1 hP hD hS 34 rfl (by rw [hm.2.2.1]; rfl) 0 (by decide) (hE.2.2.2.2.1 _ hlk) (fun _ h => h) rfl (by decide +kernel) rfl rfl (Nat.le_of_ble_eq_true rfl) hd (fun H locs hP hD hS => k _ (h _ rfl) H locs ls hP hD hS hl)
set_option maxRecDepth 20000 in
theorem cg_rd_at (hE : gOK E cc own ret hgt) (hm : cOK E l D G Q nL) (hlk : Cond.fieldLink own idx "FigureTexts$Reader" "at" "I" ∈ gTb) (hd : decode cc pc = .ok (.getfield idx, 3)) (k : GW E (cW G σ) (pc + 3) L (.int (c_rd_at σ) :: st)) : GW E (cW G σ) pc L (.ref (G.1 600) :: st) := fun H locs ls hP hD hS hl =>
  va_get (D := eD E) (ci := 4) (fs := cF_rd G σ) (C := RX5) (T := TX5) (N := 9) hE.1 hE.2.1 hE.2.2.2.2.1 cIn_X5 hE.2.2.2.1 hE.2.2.2.2.2.2.2.2.1 hP 34 rfl (by rw [hm.2.2.1]; rfl) 1 (by decide) (hE.2.2.2.2.1 _ hlk) (fun _ h => h) rfl hd (k H locs ls hP hD hS hl)
set_option maxRecDepth 20000 in
theorem cp_rd_at {v : Int32} (hE : gOK E cc own ret hgt) (hm : cOK E l D G Q nL) (hlk : Cond.fieldLink own idx "FigureTexts$Reader" "at" "I" ∈ gTb) (hd : decode cc pc = .ok (.putfield idx, 3)) {P : CS → Prop} (h : ∀ σ1 : CS, σ1 = c_rd_at_s σ v → P σ1) (k : ∀ σ1 : CS, P σ1 → GW E (cW G σ1) (pc + 3) L st) : GW E (cW G σ) pc L (.int v :: .ref (G.1 600) :: st) := fun H locs ls hP hD hS hl =>
  va_put (D := eD E) (ci := 4) (fs := cF_rd G σ) (v := .int v) (ty := .int) (C := RX5) (T := TX5) (N := 9) hE.1 hE.2.1 hE.2.2.2.2.1 cIn_X5 tyX5 tyX5_ok nmX5 hE.2.2.2.1 hE.2.2.2.2.2.2.2.2.1 hP hD hS 34 rfl (by rw [hm.2.2.1]; rfl) 1 (by decide) (hE.2.2.2.2.1 _ hlk) (fun _ h => h) rfl (by decide +kernel) rfl rfl (Nat.le_of_ble_eq_true rfl) hd (fun H locs hP hD hS => k _ (h _ rfl) H locs ls hP hD hS hl)
set_option maxRecDepth 20000 in
theorem cg_rd_end (hE : gOK E cc own ret hgt) (hm : cOK E l D G Q nL) (hlk : Cond.fieldLink own idx "FigureTexts$Reader" "end" "I" ∈ gTb) (hd : decode cc pc = .ok (.getfield idx, 3)) (k : GW E (cW G σ) (pc + 3) L (.int (c_rd_end σ) :: st)) : GW E (cW G σ) pc L (.ref (G.1 600) :: st) := fun H locs ls hP hD hS hl =>
  va_get (D := eD E) (ci := 4) (fs := cF_rd G σ) (C := RX5) (T := TX5) (N := 9) hE.1 hE.2.1 hE.2.2.2.2.1 cIn_X5 hE.2.2.2.1 hE.2.2.2.2.2.2.2.2.1 hP 34 rfl (by rw [hm.2.2.1]; rfl) 2 (by decide) (hE.2.2.2.2.1 _ hlk) (fun _ h => h) rfl hd (k H locs ls hP hD hS hl)
set_option maxRecDepth 20000 in
theorem cp_rd_end {v : Int32} (hE : gOK E cc own ret hgt) (hm : cOK E l D G Q nL) (hlk : Cond.fieldLink own idx "FigureTexts$Reader" "end" "I" ∈ gTb) (hd : decode cc pc = .ok (.putfield idx, 3)) {P : CS → Prop} (h : ∀ σ1 : CS, σ1 = c_rd_end_s σ v → P σ1) (k : ∀ σ1 : CS, P σ1 → GW E (cW G σ1) (pc + 3) L st) : GW E (cW G σ) pc L (.int v :: .ref (G.1 600) :: st) := fun H locs ls hP hD hS hl =>
  va_put (D := eD E) (ci := 4) (fs := cF_rd G σ) (v := .int v) (ty := .int) (C := RX5) (T := TX5) (N := 9) hE.1 hE.2.1 hE.2.2.2.2.1 cIn_X5 tyX5 tyX5_ok nmX5 hE.2.2.2.1 hE.2.2.2.2.2.2.2.2.1 hP hD hS 34 rfl (by rw [hm.2.2.1]; rfl) 2 (by decide) (hE.2.2.2.2.1 _ hlk) (fun _ h => h) rfl (by decide +kernel) rfl rfl (Nat.le_of_ble_eq_true rfl) hd (fun H locs hP hD hS => k _ (h _ rfl) H locs ls hP hD hS hl)
set_option maxRecDepth 20000 in
theorem cg_rd_kind (hE : gOK E cc own ret hgt) (hm : cOK E l D G Q nL) (hlk : Cond.fieldLink own idx "FigureTexts$Reader" "kind" "I" ∈ gTb) (hd : decode cc pc = .ok (.getfield idx, 3)) (k : GW E (cW G σ) (pc + 3) L (.int (c_rd_kind σ) :: st)) : GW E (cW G σ) pc L (.ref (G.1 600) :: st) := fun H locs ls hP hD hS hl =>
  va_get (D := eD E) (ci := 4) (fs := cF_rd G σ) (C := RX5) (T := TX5) (N := 9) hE.1 hE.2.1 hE.2.2.2.2.1 cIn_X5 hE.2.2.2.1 hE.2.2.2.2.2.2.2.2.1 hP 34 rfl (by rw [hm.2.2.1]; rfl) 3 (by decide) (hE.2.2.2.2.1 _ hlk) (fun _ h => h) rfl hd (k H locs ls hP hD hS hl)
set_option maxRecDepth 20000 in
theorem cp_rd_kind {v : Int32} (hE : gOK E cc own ret hgt) (hm : cOK E l D G Q nL) (hlk : Cond.fieldLink own idx "FigureTexts$Reader" "kind" "I" ∈ gTb) (hd : decode cc pc = .ok (.putfield idx, 3)) {P : CS → Prop} (h : ∀ σ1 : CS, σ1 = c_rd_kind_s σ v → P σ1) (k : ∀ σ1 : CS, P σ1 → GW E (cW G σ1) (pc + 3) L st) : GW E (cW G σ) pc L (.int v :: .ref (G.1 600) :: st) := fun H locs ls hP hD hS hl =>
  va_put (D := eD E) (ci := 4) (fs := cF_rd G σ) (v := .int v) (ty := .int) (C := RX5) (T := TX5) (N := 9) hE.1 hE.2.1 hE.2.2.2.2.1 cIn_X5 tyX5 tyX5_ok nmX5 hE.2.2.2.1 hE.2.2.2.2.2.2.2.2.1 hP hD hS 34 rfl (by rw [hm.2.2.1]; rfl) 3 (by decide) (hE.2.2.2.2.1 _ hlk) (fun _ h => h) rfl (by decide +kernel) rfl rfl (Nat.le_of_ble_eq_true rfl) hd (fun H locs hP hD hS => k _ (h _ rfl) H locs ls hP hD hS hl)
set_option maxRecDepth 20000 in
theorem cg_rd_sign (hE : gOK E cc own ret hgt) (hm : cOK E l D G Q nL) (hlk : Cond.fieldLink own idx "FigureTexts$Reader" "sign" "I" ∈ gTb) (hd : decode cc pc = .ok (.getfield idx, 3)) (k : GW E (cW G σ) (pc + 3) L (.int (c_rd_sign σ) :: st)) : GW E (cW G σ) pc L (.ref (G.1 600) :: st) := fun H locs ls hP hD hS hl =>
  va_get (D := eD E) (ci := 4) (fs := cF_rd G σ) (C := RX5) (T := TX5) (N := 9) hE.1 hE.2.1 hE.2.2.2.2.1 cIn_X5 hE.2.2.2.1 hE.2.2.2.2.2.2.2.2.1 hP 34 rfl (by rw [hm.2.2.1]; rfl) 4 (by decide) (hE.2.2.2.2.1 _ hlk) (fun _ h => h) rfl hd (k H locs ls hP hD hS hl)
set_option maxRecDepth 20000 in
theorem cp_rd_sign {v : Int32} (hE : gOK E cc own ret hgt) (hm : cOK E l D G Q nL) (hlk : Cond.fieldLink own idx "FigureTexts$Reader" "sign" "I" ∈ gTb) (hd : decode cc pc = .ok (.putfield idx, 3)) {P : CS → Prop} (h : ∀ σ1 : CS, σ1 = c_rd_sign_s σ v → P σ1) (k : ∀ σ1 : CS, P σ1 → GW E (cW G σ1) (pc + 3) L st) : GW E (cW G σ) pc L (.int v :: .ref (G.1 600) :: st) := fun H locs ls hP hD hS hl =>
  va_put (D := eD E) (ci := 4) (fs := cF_rd G σ) (v := .int v) (ty := .int) (C := RX5) (T := TX5) (N := 9) hE.1 hE.2.1 hE.2.2.2.2.1 cIn_X5 tyX5 tyX5_ok nmX5 hE.2.2.2.1 hE.2.2.2.2.2.2.2.2.1 hP hD hS 34 rfl (by rw [hm.2.2.1]; rfl) 4 (by decide) (hE.2.2.2.2.1 _ hlk) (fun _ h => h) rfl (by decide +kernel) rfl rfl (Nat.le_of_ble_eq_true rfl) hd (fun H locs hP hD hS => k _ (h _ rfl) H locs ls hP hD hS hl)
set_option maxRecDepth 20000 in
theorem cg_rd_scope (hE : gOK E cc own ret hgt) (hm : cOK E l D G Q nL) (hlk : Cond.fieldLink own idx "FigureTexts$Reader" "scope" "I" ∈ gTb) (hd : decode cc pc = .ok (.getfield idx, 3)) (k : GW E (cW G σ) (pc + 3) L (.int (c_rd_scope σ) :: st)) : GW E (cW G σ) pc L (.ref (G.1 600) :: st) := fun H locs ls hP hD hS hl =>
  va_get (D := eD E) (ci := 4) (fs := cF_rd G σ) (C := RX5) (T := TX5) (N := 9) hE.1 hE.2.1 hE.2.2.2.2.1 cIn_X5 hE.2.2.2.1 hE.2.2.2.2.2.2.2.2.1 hP 34 rfl (by rw [hm.2.2.1]; rfl) 5 (by decide) (hE.2.2.2.2.1 _ hlk) (fun _ h => h) rfl hd (k H locs ls hP hD hS hl)
set_option maxRecDepth 20000 in
theorem cp_rd_scope {v : Int32} (hE : gOK E cc own ret hgt) (hm : cOK E l D G Q nL) (hlk : Cond.fieldLink own idx "FigureTexts$Reader" "scope" "I" ∈ gTb) (hd : decode cc pc = .ok (.putfield idx, 3)) {P : CS → Prop} (h : ∀ σ1 : CS, σ1 = c_rd_scope_s σ v → P σ1) (k : ∀ σ1 : CS, P σ1 → GW E (cW G σ1) (pc + 3) L st) : GW E (cW G σ) pc L (.int v :: .ref (G.1 600) :: st) := fun H locs ls hP hD hS hl =>
  va_put (D := eD E) (ci := 4) (fs := cF_rd G σ) (v := .int v) (ty := .int) (C := RX5) (T := TX5) (N := 9) hE.1 hE.2.1 hE.2.2.2.2.1 cIn_X5 tyX5 tyX5_ok nmX5 hE.2.2.2.1 hE.2.2.2.2.2.2.2.2.1 hP hD hS 34 rfl (by rw [hm.2.2.1]; rfl) 5 (by decide) (hE.2.2.2.2.1 _ hlk) (fun _ h => h) rfl (by decide +kernel) rfl rfl (Nat.le_of_ble_eq_true rfl) hd (fun H locs hP hD hS => k _ (h _ rfl) H locs ls hP hD hS hl)
set_option maxRecDepth 20000 in
theorem cg_rd_depth (hE : gOK E cc own ret hgt) (hm : cOK E l D G Q nL) (hlk : Cond.fieldLink own idx "FigureTexts$Reader" "depth" "I" ∈ gTb) (hd : decode cc pc = .ok (.getfield idx, 3)) (k : GW E (cW G σ) (pc + 3) L (.int (c_rd_depth σ) :: st)) : GW E (cW G σ) pc L (.ref (G.1 600) :: st) := fun H locs ls hP hD hS hl =>
  va_get (D := eD E) (ci := 4) (fs := cF_rd G σ) (C := RX5) (T := TX5) (N := 9) hE.1 hE.2.1 hE.2.2.2.2.1 cIn_X5 hE.2.2.2.1 hE.2.2.2.2.2.2.2.2.1 hP 34 rfl (by rw [hm.2.2.1]; rfl) 6 (by decide) (hE.2.2.2.2.1 _ hlk) (fun _ h => h) rfl hd (k H locs ls hP hD hS hl)
set_option maxRecDepth 20000 in
theorem cp_rd_depth {v : Int32} (hE : gOK E cc own ret hgt) (hm : cOK E l D G Q nL) (hlk : Cond.fieldLink own idx "FigureTexts$Reader" "depth" "I" ∈ gTb) (hd : decode cc pc = .ok (.putfield idx, 3)) {P : CS → Prop} (h : ∀ σ1 : CS, σ1 = c_rd_depth_s σ v → P σ1) (k : ∀ σ1 : CS, P σ1 → GW E (cW G σ1) (pc + 3) L st) : GW E (cW G σ) pc L (.int v :: .ref (G.1 600) :: st) := fun H locs ls hP hD hS hl =>
  va_put (D := eD E) (ci := 4) (fs := cF_rd G σ) (v := .int v) (ty := .int) (C := RX5) (T := TX5) (N := 9) hE.1 hE.2.1 hE.2.2.2.2.1 cIn_X5 tyX5 tyX5_ok nmX5 hE.2.2.2.1 hE.2.2.2.2.2.2.2.2.1 hP hD hS 34 rfl (by rw [hm.2.2.1]; rfl) 6 (by decide) (hE.2.2.2.2.1 _ hlk) (fun _ h => h) rfl (by decide +kernel) rfl rfl (Nat.le_of_ble_eq_true rfl) hd (fun H locs hP hD hS => k _ (h _ rfl) H locs ls hP hD hS hl)
set_option maxRecDepth 20000 in
theorem cg_rd_fault (hE : gOK E cc own ret hgt) (hm : cOK E l D G Q nL) (hlk : Cond.fieldLink own idx "FigureTexts$Reader" "fault" "I" ∈ gTb) (hd : decode cc pc = .ok (.getfield idx, 3)) (k : GW E (cW G σ) (pc + 3) L (.int (c_rd_fault σ) :: st)) : GW E (cW G σ) pc L (.ref (G.1 600) :: st) := fun H locs ls hP hD hS hl =>
  va_get (D := eD E) (ci := 4) (fs := cF_rd G σ) (C := RX5) (T := TX5) (N := 9) hE.1 hE.2.1 hE.2.2.2.2.1 cIn_X5 hE.2.2.2.1 hE.2.2.2.2.2.2.2.2.1 hP 34 rfl (by rw [hm.2.2.1]; rfl) 7 (by decide) (hE.2.2.2.2.1 _ hlk) (fun _ h => h) rfl hd (k H locs ls hP hD hS hl)
set_option maxRecDepth 20000 in
theorem cp_rd_fault {v : Int32} (hE : gOK E cc own ret hgt) (hm : cOK E l D G Q nL) (hlk : Cond.fieldLink own idx "FigureTexts$Reader" "fault" "I" ∈ gTb) (hd : decode cc pc = .ok (.putfield idx, 3)) {P : CS → Prop} (h : ∀ σ1 : CS, σ1 = c_rd_fault_s σ v → P σ1) (k : ∀ σ1 : CS, P σ1 → GW E (cW G σ1) (pc + 3) L st) : GW E (cW G σ) pc L (.int v :: .ref (G.1 600) :: st) := fun H locs ls hP hD hS hl =>
  va_put (D := eD E) (ci := 4) (fs := cF_rd G σ) (v := .int v) (ty := .int) (C := RX5) (T := TX5) (N := 9) hE.1 hE.2.1 hE.2.2.2.2.1 cIn_X5 tyX5 tyX5_ok nmX5 hE.2.2.2.1 hE.2.2.2.2.2.2.2.2.1 hP hD hS 34 rfl (by rw [hm.2.2.1]; rfl) 7 (by decide) (hE.2.2.2.2.1 _ hlk) (fun _ h => h) rfl (by decide +kernel) rfl rfl (Nat.le_of_ble_eq_true rfl) hd (fun H locs hP hD hS => k _ (h _ rfl) H locs ls hP hD hS hl)
set_option maxRecDepth 20000 in
theorem cg_rd_faultAt (hE : gOK E cc own ret hgt) (hm : cOK E l D G Q nL) (hlk : Cond.fieldLink own idx "FigureTexts$Reader" "faultAt" "I" ∈ gTb) (hd : decode cc pc = .ok (.getfield idx, 3)) (k : GW E (cW G σ) (pc + 3) L (.int (c_rd_faultAt σ) :: st)) : GW E (cW G σ) pc L (.ref (G.1 600) :: st) := fun H locs ls hP hD hS hl =>
  va_get (D := eD E) (ci := 4) (fs := cF_rd G σ) (C := RX5) (T := TX5) (N := 9) hE.1 hE.2.1 hE.2.2.2.2.1 cIn_X5 hE.2.2.2.1 hE.2.2.2.2.2.2.2.2.1 hP 34 rfl (by rw [hm.2.2.1]; rfl) 8 (by decide) (hE.2.2.2.2.1 _ hlk) (fun _ h => h) rfl hd (k H locs ls hP hD hS hl)
set_option maxRecDepth 20000 in
theorem cp_rd_faultAt {v : Int32} (hE : gOK E cc own ret hgt) (hm : cOK E l D G Q nL) (hlk : Cond.fieldLink own idx "FigureTexts$Reader" "faultAt" "I" ∈ gTb) (hd : decode cc pc = .ok (.putfield idx, 3)) {P : CS → Prop} (h : ∀ σ1 : CS, σ1 = c_rd_faultAt_s σ v → P σ1) (k : ∀ σ1 : CS, P σ1 → GW E (cW G σ1) (pc + 3) L st) : GW E (cW G σ) pc L (.int v :: .ref (G.1 600) :: st) := fun H locs ls hP hD hS hl =>
  va_put (D := eD E) (ci := 4) (fs := cF_rd G σ) (v := .int v) (ty := .int) (C := RX5) (T := TX5) (N := 9) hE.1 hE.2.1 hE.2.2.2.2.1 cIn_X5 tyX5 tyX5_ok nmX5 hE.2.2.2.1 hE.2.2.2.2.2.2.2.2.1 hP hD hS 34 rfl (by rw [hm.2.2.1]; rfl) 8 (by decide) (hE.2.2.2.2.1 _ hlk) (fun _ h => h) rfl (by decide +kernel) rfl rfl (Nat.le_of_ble_eq_true rfl) hd (fun H locs hP hD hS => k _ (h _ rfl) H locs ls hP hD hS hl)
set_option maxRecDepth 20000 in
theorem cg_pr_out (hE : gOK E cc own ret hgt) (hm : cOK E l D G Q nL) (hlk : Cond.fieldLink own idx "FigureTexts$Printer" "out" "LFigureTexts$Out;" ∈ gTb) (hd : decode cc pc = .ok (.getfield idx, 3)) (k : GW E (cW G σ) (pc + 3) L (.ref (G.1 500) :: st)) : GW E (cW G σ) pc L (.ref (G.1 700) :: st) := fun H locs ls hP hD hS hl =>
  va_get (D := eD E) (ci := 3) (fs := cF_pr G σ) (C := RX4) (T := TX4) (N := 6) hE.1 hE.2.1 hE.2.2.2.2.1 cIn_X4 hE.2.2.2.1 hE.2.2.2.2.2.2.2.2.1 hP 35 rfl (by rw [hm.2.2.1]; rfl) 0 (by decide) (hE.2.2.2.2.1 _ hlk) (fun _ h => h) rfl hd (k H locs ls hP hD hS hl)
set_option maxRecDepth 20000 in
theorem cg_pr_figure (hE : gOK E cc own ret hgt) (hm : cOK E l D G Q nL) (hlk : Cond.fieldLink own idx "FigureTexts$Printer" "figure" "LFigureTexts$Figure;" ∈ gTb) (hd : decode cc pc = .ok (.getfield idx, 3)) {j : Nat} (hj : c_pr_figure σ = j) (k : GW E (cW G σ) (pc + 3) L (.ref (G.1 j) :: st)) : GW E (cW G σ) pc L (.ref (G.1 700) :: st) := by subst hj; exact (fun H locs ls hP hD hS hl =>
  va_get (D := eD E) (ci := 3) (fs := cF_pr G σ) (C := RX4) (T := TX4) (N := 6) hE.1 hE.2.1 hE.2.2.2.2.1 cIn_X4 hE.2.2.2.1 hE.2.2.2.2.2.2.2.2.1 hP 35 rfl (by rw [hm.2.2.1]; rfl) 1 (by decide) (hE.2.2.2.2.1 _ hlk) (fun _ h => h) rfl hd (k H locs ls hP hD hS hl))
set_option maxRecDepth 20000 in
theorem cp_pr_figure {v : Nat} (hE : gOK E cc own ret hgt) (hm : cOK E l D G Q nL) (hlk : Cond.fieldLink own idx "FigureTexts$Printer" "figure" "LFigureTexts$Figure;" ∈ gTb) (hd : decode cc pc = .ok (.putfield idx, 3)) {P : CS → Prop} (h : ∀ σ1 : CS, σ1 = c_pr_figure_s σ v → P σ1) (k : ∀ σ1 : CS, P σ1 → GW E (cW G σ1) (pc + 3) L st) : GW E (cW G σ) pc L (.ref (G.1 v) :: .ref (G.1 700) :: st) := fun H locs ls hP hD hS hl =>
  va_put (D := eD E) (ci := 3) (fs := cF_pr G σ) (v := .ref (G.1 v)) (ty := .object "FigureTexts$Figure") (C := RX4) (T := TX4) (N := 6) hE.1 hE.2.1 hE.2.2.2.2.1 cIn_X4 tyX4 tyX4_ok nmX4 hE.2.2.2.1 hE.2.2.2.2.2.2.2.2.1 hP hD hS 35 rfl (by rw [hm.2.2.1]; rfl) 1 (by decide) (hE.2.2.2.2.1 _ hlk) (fun _ h => h) rfl (by decide +kernel) rfl rfl (Nat.le_of_ble_eq_true rfl) hd (fun H locs hP hD hS => k _ (h _ rfl) H locs ls hP hD hS hl)
set_option maxRecDepth 20000 in
theorem cg_pr_node (hE : gOK E cc own ret hgt) (hm : cOK E l D G Q nL) (hlk : Cond.fieldLink own idx "FigureTexts$Printer" "node" "[I" ∈ gTb) (hd : decode cc pc = .ok (.getfield idx, 3)) (k : GW E (cW G σ) (pc + 3) L (.ref (G.1 703) :: st)) : GW E (cW G σ) pc L (.ref (G.1 700) :: st) := fun H locs ls hP hD hS hl =>
  va_get (D := eD E) (ci := 3) (fs := cF_pr G σ) (C := RX4) (T := TX4) (N := 6) hE.1 hE.2.1 hE.2.2.2.2.1 cIn_X4 hE.2.2.2.1 hE.2.2.2.2.2.2.2.2.1 hP 35 rfl (by rw [hm.2.2.1]; rfl) 2 (by decide) (hE.2.2.2.2.1 _ hlk) (fun _ h => h) rfl hd (k H locs ls hP hD hS hl)
set_option maxRecDepth 20000 in
theorem cl_pr_node {i : Int32} (hE : gOK E cc own ret hgt) (hm : cOK E l D G Q nL) (hd : decode cc pc = .ok (.iaload, 1)) (hi : vp_in i 250) (k : GW E (cW G σ) (pc + 1) L (.int (c_pr_node σ i.toNatClampNeg) :: st)) : GW E (cW G σ) pc L (.int i :: .ref (G.1 703) :: st) := fun H locs ls hP hD hS hl =>
  va_iald hE.1 hE.2.1 hE.2.2.2.2.2.2.2.2.1 hP 36 0 (cA := G.2 0) (n := 250) rfl (by rw [hm.2.2.2.1]; rfl) hi hd (k H locs ls hP hD hS hl)
set_option maxRecDepth 20000 in
theorem cn_pr_node (hE : gOK E cc own ret hgt) (hm : cOK E l D G Q nL) (hd : decode cc pc = .ok (.arraylength, 1)) (k : GW E (cW G σ) (pc + 1) L (.int 250 :: st)) : GW E (cW G σ) pc L (.ref (G.1 703) :: st) := fun H locs ls hP hD hS hl =>
  va_alen hE.1 hE.2.1 hE.2.2.2.2.2.2.2.2.1 hP 36 0 (cA := G.2 0) (x := (250, .inl (σ.2.2.1 702))) rfl (by rw [hm.2.2.2.1]; rfl) (show Int32.ofNat 250 = 250 by decide) hd (k H locs ls hP hD hS hl)
set_option maxRecDepth 20000 in
theorem cs_pr_node {i : Int32} {v : Int32} (hE : gOK E cc own ret hgt) (hm : cOK E l D G Q nL) (hd : decode cc pc = .ok (.iastore, 1)) (hi : vp_in i 250) {P : CS → Prop} (h : ∀ σ1 : CS, σ1 = c_pr_node_s σ i.toNatClampNeg v → P σ1) (k : ∀ σ1 : CS, P σ1 → GW E (cW G σ1) (pc + 1) L st) : GW E (cW G σ) pc L (.int v :: .int i :: .ref (G.1 703) :: st) := fun H locs ls hP hD hS hl =>
  va_iast hE.1 hE.2.1 hE.2.2.2.2.2.2.2.2.1 hP hD hS 36 0 (cA := G.2 0) (n := 250) rfl (by rw [hm.2.2.2.1]; rfl) hi hd (fun H locs hP hD hS => k _ (h _ rfl) H locs ls hP hD hS hl)
set_option maxRecDepth 20000 in
theorem cg_pr_cursor (hE : gOK E cc own ret hgt) (hm : cOK E l D G Q nL) (hlk : Cond.fieldLink own idx "FigureTexts$Printer" "cursor" "[I" ∈ gTb) (hd : decode cc pc = .ok (.getfield idx, 3)) (k : GW E (cW G σ) (pc + 3) L (.ref (G.1 704) :: st)) : GW E (cW G σ) pc L (.ref (G.1 700) :: st) := fun H locs ls hP hD hS hl =>
  va_get (D := eD E) (ci := 3) (fs := cF_pr G σ) (C := RX4) (T := TX4) (N := 6) hE.1 hE.2.1 hE.2.2.2.2.1 cIn_X4 hE.2.2.2.1 hE.2.2.2.2.2.2.2.2.1 hP 35 rfl (by rw [hm.2.2.1]; rfl) 3 (by decide) (hE.2.2.2.2.1 _ hlk) (fun _ h => h) rfl hd (k H locs ls hP hD hS hl)
set_option maxRecDepth 20000 in
theorem cl_pr_cursor {i : Int32} (hE : gOK E cc own ret hgt) (hm : cOK E l D G Q nL) (hd : decode cc pc = .ok (.iaload, 1)) (hi : vp_in i 250) (k : GW E (cW G σ) (pc + 1) L (.int (c_pr_cursor σ i.toNatClampNeg) :: st)) : GW E (cW G σ) pc L (.int i :: .ref (G.1 704) :: st) := fun H locs ls hP hD hS hl =>
  va_iald hE.1 hE.2.1 hE.2.2.2.2.2.2.2.2.1 hP 37 0 (cA := G.2 0) (n := 250) rfl (by rw [hm.2.2.2.1]; rfl) hi hd (k H locs ls hP hD hS hl)
set_option maxRecDepth 20000 in
theorem cn_pr_cursor (hE : gOK E cc own ret hgt) (hm : cOK E l D G Q nL) (hd : decode cc pc = .ok (.arraylength, 1)) (k : GW E (cW G σ) (pc + 1) L (.int 250 :: st)) : GW E (cW G σ) pc L (.ref (G.1 704) :: st) := fun H locs ls hP hD hS hl =>
  va_alen hE.1 hE.2.1 hE.2.2.2.2.2.2.2.2.1 hP 37 0 (cA := G.2 0) (x := (250, .inl (σ.2.2.1 703))) rfl (by rw [hm.2.2.2.1]; rfl) (show Int32.ofNat 250 = 250 by decide) hd (k H locs ls hP hD hS hl)
set_option maxRecDepth 20000 in
theorem cs_pr_cursor {i : Int32} {v : Int32} (hE : gOK E cc own ret hgt) (hm : cOK E l D G Q nL) (hd : decode cc pc = .ok (.iastore, 1)) (hi : vp_in i 250) {P : CS → Prop} (h : ∀ σ1 : CS, σ1 = c_pr_cursor_s σ i.toNatClampNeg v → P σ1) (k : ∀ σ1 : CS, P σ1 → GW E (cW G σ1) (pc + 1) L st) : GW E (cW G σ) pc L (.int v :: .int i :: .ref (G.1 704) :: st) := fun H locs ls hP hD hS hl =>
  va_iast hE.1 hE.2.1 hE.2.2.2.2.2.2.2.2.1 hP hD hS 37 0 (cA := G.2 0) (n := 250) rfl (by rw [hm.2.2.2.1]; rfl) hi hd (fun H locs hP hD hS => k _ (h _ rfl) H locs ls hP hD hS hl)
set_option maxRecDepth 20000 in
theorem cg_pr_wrapped (hE : gOK E cc own ret hgt) (hm : cOK E l D G Q nL) (hlk : Cond.fieldLink own idx "FigureTexts$Printer" "wrapped" "[Z" ∈ gTb) (hd : decode cc pc = .ok (.getfield idx, 3)) (k : GW E (cW G σ) (pc + 3) L (.ref (G.1 705) :: st)) : GW E (cW G σ) pc L (.ref (G.1 700) :: st) := fun H locs ls hP hD hS hl =>
  va_get (D := eD E) (ci := 3) (fs := cF_pr G σ) (C := RX4) (T := TX4) (N := 6) hE.1 hE.2.1 hE.2.2.2.2.1 cIn_X4 hE.2.2.2.1 hE.2.2.2.2.2.2.2.2.1 hP 35 rfl (by rw [hm.2.2.1]; rfl) 4 (by decide) (hE.2.2.2.2.1 _ hlk) (fun _ h => h) rfl hd (k H locs ls hP hD hS hl)
set_option maxRecDepth 20000 in
theorem cl_pr_wrapped {i : Int32} (hE : gOK E cc own ret hgt) (hm : cOK E l D G Q nL) (hd : decode cc pc = .ok (.baload, 1)) (hi : vp_in i 250) (k : GW E (cW G σ) (pc + 1) L (.int (c_pr_wrapped σ i.toNatClampNeg) :: st)) : GW E (cW G σ) pc L (.int i :: .ref (G.1 705) :: st) := fun H locs ls hP hD hS hl =>
  va_zald hE.1 hE.2.1 hE.2.2.2.2.2.2.2.2.1 hP 38 4 (cA := G.2 4) (n := 250) rfl (by rw [hm.2.2.2.1]; rfl) hi hd (k H locs ls hP hD hS hl)
set_option maxRecDepth 20000 in
theorem cn_pr_wrapped (hE : gOK E cc own ret hgt) (hm : cOK E l D G Q nL) (hd : decode cc pc = .ok (.arraylength, 1)) (k : GW E (cW G σ) (pc + 1) L (.int 250 :: st)) : GW E (cW G σ) pc L (.ref (G.1 705) :: st) := fun H locs ls hP hD hS hl =>
  va_alen hE.1 hE.2.1 hE.2.2.2.2.2.2.2.2.1 hP 38 4 (cA := G.2 4) (x := (250, .inl (σ.2.2.1 704))) rfl (by rw [hm.2.2.2.1]; rfl) (show Int32.ofNat 250 = 250 by decide) hd (k H locs ls hP hD hS hl)
set_option maxRecDepth 20000 in
theorem cs_pr_wrapped {i : Int32} {v : Int32} (hE : gOK E cc own ret hgt) (hm : cOK E l D G Q nL) (hd : decode cc pc = .ok (.bastore, 1)) (hi : vp_in i 250) (hb : isB v) {P : CS → Prop} (h : ∀ σ1 : CS, σ1 = c_pr_wrapped_s σ i.toNatClampNeg v → P σ1) (k : ∀ σ1 : CS, P σ1 → GW E (cW G σ1) (pc + 1) L st) : GW E (cW G σ) pc L (.int v :: .int i :: .ref (G.1 705) :: st) := fun H locs ls hP hD hS hl =>
  va_zast hE.1 hE.2.1 hE.2.2.2.2.2.2.2.2.1 hP hD hS 38 4 (cA := G.2 4) (n := 250) rfl (by rw [hm.2.2.2.1]; rfl) hi hd (fun H locs hP hD hS => k _ (h _ rfl) H locs ls (by rw [isB_v hb] at hP; exact hP) (by rw [isB_v hb] at hD; exact hD) hS hl)
set_option maxRecDepth 20000 in
theorem cg_pr_top (hE : gOK E cc own ret hgt) (hm : cOK E l D G Q nL) (hlk : Cond.fieldLink own idx "FigureTexts$Printer" "top" "I" ∈ gTb) (hd : decode cc pc = .ok (.getfield idx, 3)) (k : GW E (cW G σ) (pc + 3) L (.int (c_pr_top σ) :: st)) : GW E (cW G σ) pc L (.ref (G.1 700) :: st) := fun H locs ls hP hD hS hl =>
  va_get (D := eD E) (ci := 3) (fs := cF_pr G σ) (C := RX4) (T := TX4) (N := 6) hE.1 hE.2.1 hE.2.2.2.2.1 cIn_X4 hE.2.2.2.1 hE.2.2.2.2.2.2.2.2.1 hP 35 rfl (by rw [hm.2.2.1]; rfl) 5 (by decide) (hE.2.2.2.2.1 _ hlk) (fun _ h => h) rfl hd (k H locs ls hP hD hS hl)
set_option maxRecDepth 20000 in
theorem cp_pr_top {v : Int32} (hE : gOK E cc own ret hgt) (hm : cOK E l D G Q nL) (hlk : Cond.fieldLink own idx "FigureTexts$Printer" "top" "I" ∈ gTb) (hd : decode cc pc = .ok (.putfield idx, 3)) {P : CS → Prop} (h : ∀ σ1 : CS, σ1 = c_pr_top_s σ v → P σ1) (k : ∀ σ1 : CS, P σ1 → GW E (cW G σ1) (pc + 3) L st) : GW E (cW G σ) pc L (.int v :: .ref (G.1 700) :: st) := fun H locs ls hP hD hS hl =>
  va_put (D := eD E) (ci := 3) (fs := cF_pr G σ) (v := .int v) (ty := .int) (C := RX4) (T := TX4) (N := 6) hE.1 hE.2.1 hE.2.2.2.2.1 cIn_X4 tyX4 tyX4_ok nmX4 hE.2.2.2.1 hE.2.2.2.2.2.2.2.2.1 hP hD hS 35 rfl (by rw [hm.2.2.1]; rfl) 5 (by decide) (hE.2.2.2.2.1 _ hlk) (fun _ h => h) rfl (by decide +kernel) rfl rfl (Nat.le_of_ble_eq_true rfl) hd (fun H locs hP hD hS => k _ (h _ rfl) H locs ls hP hD hS hl)
set_option maxRecDepth 20000 in
theorem cg_rk_failure (hE : gOK E cc own ret hgt) (hm : cOK E l D G Q nL) (hlk : Cond.fieldLink own idx "FigureTexts$Reckoner" "failure" "I" ∈ gTb) (hd : decode cc pc = .ok (.getfield idx, 3)) (k : GW E (cW G σ) (pc + 3) L (.int (c_rk_failure σ) :: st)) : GW E (cW G σ) pc L (.ref (G.1 800) :: st) := fun H locs ls hP hD hS hl =>
  va_get (D := eD E) (ci := 5) (fs := cF_rk G σ) (C := RX6) (T := TX6) (N := 1) hE.1 hE.2.1 hE.2.2.2.2.1 cIn_X6 hE.2.2.2.1 hE.2.2.2.2.2.2.2.2.1 hP 39 rfl (by rw [hm.2.2.1]; rfl) 0 (by decide) (hE.2.2.2.2.1 _ hlk) (fun _ h => h) rfl hd (k H locs ls hP hD hS hl)
set_option maxRecDepth 20000 in
theorem cp_rk_failure {v : Int32} (hE : gOK E cc own ret hgt) (hm : cOK E l D G Q nL) (hlk : Cond.fieldLink own idx "FigureTexts$Reckoner" "failure" "I" ∈ gTb) (hd : decode cc pc = .ok (.putfield idx, 3)) {P : CS → Prop} (h : ∀ σ1 : CS, σ1 = c_rk_failure_s σ v → P σ1) (k : ∀ σ1 : CS, P σ1 → GW E (cW G σ1) (pc + 3) L st) : GW E (cW G σ) pc L (.int v :: .ref (G.1 800) :: st) := fun H locs ls hP hD hS hl =>
  va_put (D := eD E) (ci := 5) (fs := cF_rk G σ) (v := .int v) (ty := .int) (C := RX6) (T := TX6) (N := 1) hE.1 hE.2.1 hE.2.2.2.2.1 cIn_X6 tyX6 tyX6_ok nmX6 hE.2.2.2.1 hE.2.2.2.2.2.2.2.2.1 hP hD hS 39 rfl (by rw [hm.2.2.1]; rfl) 0 (by decide) (hE.2.2.2.2.1 _ hlk) (fun _ h => h) rfl (by decide +kernel) rfl rfl (Nat.le_of_ble_eq_true rfl) hd (fun H locs hP hD hS => k _ (h _ rfl) H locs ls hP hD hS hl)
set_option maxRecDepth 20000 in
theorem cg_th_kinds (hE : gOK E cc own ret hgt) (hm : cOK E l D G Q nL) (hlk : Cond.fieldLink own idx "FigureTexts$Things" "kinds" "[I" ∈ gTb) (hd : decode cc pc = .ok (.getfield idx, 3)) (k : GW E (cW G σ) (pc + 3) L (.ref (G.1 901) :: st)) : GW E (cW G σ) pc L (.ref (G.1 900) :: st) := fun H locs ls hP hD hS hl =>
  va_get (D := eD E) (ci := 7) (fs := cF_th G σ) (C := RX8) (T := TX8) (N := 5) hE.1 hE.2.1 hE.2.2.2.2.1 cIn_X8 hE.2.2.2.1 hE.2.2.2.2.2.2.2.2.1 hP 40 rfl (by rw [hm.2.2.1]; rfl) 0 (by decide) (hE.2.2.2.2.1 _ hlk) (fun _ h => h) rfl hd (k H locs ls hP hD hS hl)
set_option maxRecDepth 20000 in
theorem cl_th_kinds {i : Int32} (hE : gOK E cc own ret hgt) (hm : cOK E l D G Q nL) (hd : decode cc pc = .ok (.iaload, 1)) (hi : vp_in i 400) (k : GW E (cW G σ) (pc + 1) L (.int (c_th_kinds σ i.toNatClampNeg) :: st)) : GW E (cW G σ) pc L (.int i :: .ref (G.1 901) :: st) := fun H locs ls hP hD hS hl =>
  va_iald hE.1 hE.2.1 hE.2.2.2.2.2.2.2.2.1 hP 41 0 (cA := G.2 0) (n := 400) rfl (by rw [hm.2.2.2.1]; rfl) hi hd (k H locs ls hP hD hS hl)
set_option maxRecDepth 20000 in
theorem cn_th_kinds (hE : gOK E cc own ret hgt) (hm : cOK E l D G Q nL) (hd : decode cc pc = .ok (.arraylength, 1)) (k : GW E (cW G σ) (pc + 1) L (.int 400 :: st)) : GW E (cW G σ) pc L (.ref (G.1 901) :: st) := fun H locs ls hP hD hS hl =>
  va_alen hE.1 hE.2.1 hE.2.2.2.2.2.2.2.2.1 hP 41 0 (cA := G.2 0) (x := (400, .inl (σ.2.2.1 900))) rfl (by rw [hm.2.2.2.1]; rfl) (show Int32.ofNat 400 = 400 by decide) hd (k H locs ls hP hD hS hl)
set_option maxRecDepth 20000 in
theorem cs_th_kinds {i : Int32} {v : Int32} (hE : gOK E cc own ret hgt) (hm : cOK E l D G Q nL) (hd : decode cc pc = .ok (.iastore, 1)) (hi : vp_in i 400) {P : CS → Prop} (h : ∀ σ1 : CS, σ1 = c_th_kinds_s σ i.toNatClampNeg v → P σ1) (k : ∀ σ1 : CS, P σ1 → GW E (cW G σ1) (pc + 1) L st) : GW E (cW G σ) pc L (.int v :: .int i :: .ref (G.1 901) :: st) := fun H locs ls hP hD hS hl =>
  va_iast hE.1 hE.2.1 hE.2.2.2.2.2.2.2.2.1 hP hD hS 41 0 (cA := G.2 0) (n := 400) rfl (by rw [hm.2.2.2.1]; rfl) hi hd (fun H locs hP hD hS => k _ (h _ rfl) H locs ls hP hD hS hl)
set_option maxRecDepth 20000 in
theorem cg_th_leaning (hE : gOK E cc own ret hgt) (hm : cOK E l D G Q nL) (hlk : Cond.fieldLink own idx "FigureTexts$Things" "leaning" "[I" ∈ gTb) (hd : decode cc pc = .ok (.getfield idx, 3)) (k : GW E (cW G σ) (pc + 3) L (.ref (G.1 902) :: st)) : GW E (cW G σ) pc L (.ref (G.1 900) :: st) := fun H locs ls hP hD hS hl =>
  va_get (D := eD E) (ci := 7) (fs := cF_th G σ) (C := RX8) (T := TX8) (N := 5) hE.1 hE.2.1 hE.2.2.2.2.1 cIn_X8 hE.2.2.2.1 hE.2.2.2.2.2.2.2.2.1 hP 40 rfl (by rw [hm.2.2.1]; rfl) 1 (by decide) (hE.2.2.2.2.1 _ hlk) (fun _ h => h) rfl hd (k H locs ls hP hD hS hl)
set_option maxRecDepth 20000 in
theorem cl_th_leaning {i : Int32} (hE : gOK E cc own ret hgt) (hm : cOK E l D G Q nL) (hd : decode cc pc = .ok (.iaload, 1)) (hi : vp_in i 400) (k : GW E (cW G σ) (pc + 1) L (.int (c_th_leaning σ i.toNatClampNeg) :: st)) : GW E (cW G σ) pc L (.int i :: .ref (G.1 902) :: st) := fun H locs ls hP hD hS hl =>
  va_iald hE.1 hE.2.1 hE.2.2.2.2.2.2.2.2.1 hP 42 0 (cA := G.2 0) (n := 400) rfl (by rw [hm.2.2.2.1]; rfl) hi hd (k H locs ls hP hD hS hl)
set_option maxRecDepth 20000 in
theorem cn_th_leaning (hE : gOK E cc own ret hgt) (hm : cOK E l D G Q nL) (hd : decode cc pc = .ok (.arraylength, 1)) (k : GW E (cW G σ) (pc + 1) L (.int 400 :: st)) : GW E (cW G σ) pc L (.ref (G.1 902) :: st) := fun H locs ls hP hD hS hl =>
  va_alen hE.1 hE.2.1 hE.2.2.2.2.2.2.2.2.1 hP 42 0 (cA := G.2 0) (x := (400, .inl (σ.2.2.1 901))) rfl (by rw [hm.2.2.2.1]; rfl) (show Int32.ofNat 400 = 400 by decide) hd (k H locs ls hP hD hS hl)
set_option maxRecDepth 20000 in
theorem cs_th_leaning {i : Int32} {v : Int32} (hE : gOK E cc own ret hgt) (hm : cOK E l D G Q nL) (hd : decode cc pc = .ok (.iastore, 1)) (hi : vp_in i 400) {P : CS → Prop} (h : ∀ σ1 : CS, σ1 = c_th_leaning_s σ i.toNatClampNeg v → P σ1) (k : ∀ σ1 : CS, P σ1 → GW E (cW G σ1) (pc + 1) L st) : GW E (cW G σ) pc L (.int v :: .int i :: .ref (G.1 902) :: st) := fun H locs ls hP hD hS hl =>
  va_iast hE.1 hE.2.1 hE.2.2.2.2.2.2.2.2.1 hP hD hS 42 0 (cA := G.2 0) (n := 400) rfl (by rw [hm.2.2.2.1]; rfl) hi hd (fun H locs hP hD hS => k _ (h _ rfl) H locs ls hP hD hS hl)
set_option maxRecDepth 20000 in
theorem cg_th_parts (hE : gOK E cc own ret hgt) (hm : cOK E l D G Q nL) (hlk : Cond.fieldLink own idx "FigureTexts$Things" "parts" "[J" ∈ gTb) (hd : decode cc pc = .ok (.getfield idx, 3)) (k : GW E (cW G σ) (pc + 3) L (.ref (G.1 903) :: st)) : GW E (cW G σ) pc L (.ref (G.1 900) :: st) := fun H locs ls hP hD hS hl =>
  va_get (D := eD E) (ci := 7) (fs := cF_th G σ) (C := RX8) (T := TX8) (N := 5) hE.1 hE.2.1 hE.2.2.2.2.1 cIn_X8 hE.2.2.2.1 hE.2.2.2.2.2.2.2.2.1 hP 40 rfl (by rw [hm.2.2.1]; rfl) 2 (by decide) (hE.2.2.2.2.1 _ hlk) (fun _ h => h) rfl hd (k H locs ls hP hD hS hl)
set_option maxRecDepth 20000 in
theorem cl_th_parts {i : Int32} (hE : gOK E cc own ret hgt) (hm : cOK E l D G Q nL) (hd : decode cc pc = .ok (.laload, 1)) (hi : vp_in i 2800) (k : GW E (cW G σ) (pc + 1) L (.long (c_th_parts σ i.toNatClampNeg) :: st)) : GW E (cW G σ) pc L (.int i :: .ref (G.1 903) :: st) := fun H locs ls hP hD hS hl =>
  va_lald hE.1 hE.2.1 hE.2.2.2.2.2.2.2.2.1 hP 43 1 (cA := G.2 1) (n := 2800) rfl (by rw [hm.2.2.2.1]; rfl) hi hd (k H locs ls hP hD hS hl)
set_option maxRecDepth 20000 in
theorem cn_th_parts (hE : gOK E cc own ret hgt) (hm : cOK E l D G Q nL) (hd : decode cc pc = .ok (.arraylength, 1)) (k : GW E (cW G σ) (pc + 1) L (.int 2800 :: st)) : GW E (cW G σ) pc L (.ref (G.1 903) :: st) := fun H locs ls hP hD hS hl =>
  va_alen hE.1 hE.2.1 hE.2.2.2.2.2.2.2.2.1 hP 43 1 (cA := G.2 1) (x := (2800, .inr (.inl (σ.2.2.2.1 902)))) rfl (by rw [hm.2.2.2.1]; rfl) (show Int32.ofNat 2800 = 2800 by decide) hd (k H locs ls hP hD hS hl)
set_option maxRecDepth 20000 in
theorem cs_th_parts {i : Int32} {v : Int64} (hE : gOK E cc own ret hgt) (hm : cOK E l D G Q nL) (hd : decode cc pc = .ok (.lastore, 1)) (hi : vp_in i 2800) {P : CS → Prop} (h : ∀ σ1 : CS, σ1 = c_th_parts_s σ i.toNatClampNeg v → P σ1) (k : ∀ σ1 : CS, P σ1 → GW E (cW G σ1) (pc + 1) L st) : GW E (cW G σ) pc L (.long v :: .int i :: .ref (G.1 903) :: st) := fun H locs ls hP hD hS hl =>
  va_last hE.1 hE.2.1 hE.2.2.2.2.2.2.2.2.1 hP hD hS 43 1 (cA := G.2 1) (n := 2800) rfl (by rw [hm.2.2.2.1]; rfl) hi hd (fun H locs hP hD hS => k _ (h _ rfl) H locs ls hP hD hS hl)
set_option maxRecDepth 20000 in
theorem cg_th_held (hE : gOK E cc own ret hgt) (hm : cOK E l D G Q nL) (hlk : Cond.fieldLink own idx "FigureTexts$Things" "held" "[I" ∈ gTb) (hd : decode cc pc = .ok (.getfield idx, 3)) (k : GW E (cW G σ) (pc + 3) L (.ref (G.1 904) :: st)) : GW E (cW G σ) pc L (.ref (G.1 900) :: st) := fun H locs ls hP hD hS hl =>
  va_get (D := eD E) (ci := 7) (fs := cF_th G σ) (C := RX8) (T := TX8) (N := 5) hE.1 hE.2.1 hE.2.2.2.2.1 cIn_X8 hE.2.2.2.1 hE.2.2.2.2.2.2.2.2.1 hP 40 rfl (by rw [hm.2.2.1]; rfl) 3 (by decide) (hE.2.2.2.2.1 _ hlk) (fun _ h => h) rfl hd (k H locs ls hP hD hS hl)
set_option maxRecDepth 20000 in
theorem cl_th_held {i : Int32} (hE : gOK E cc own ret hgt) (hm : cOK E l D G Q nL) (hd : decode cc pc = .ok (.iaload, 1)) (hi : vp_in i 8000) (k : GW E (cW G σ) (pc + 1) L (.int (c_th_held σ i.toNatClampNeg) :: st)) : GW E (cW G σ) pc L (.int i :: .ref (G.1 904) :: st) := fun H locs ls hP hD hS hl =>
  va_iald hE.1 hE.2.1 hE.2.2.2.2.2.2.2.2.1 hP 44 0 (cA := G.2 0) (n := 8000) rfl (by rw [hm.2.2.2.1]; rfl) hi hd (k H locs ls hP hD hS hl)
set_option maxRecDepth 20000 in
theorem cn_th_held (hE : gOK E cc own ret hgt) (hm : cOK E l D G Q nL) (hd : decode cc pc = .ok (.arraylength, 1)) (k : GW E (cW G σ) (pc + 1) L (.int 8000 :: st)) : GW E (cW G σ) pc L (.ref (G.1 904) :: st) := fun H locs ls hP hD hS hl =>
  va_alen hE.1 hE.2.1 hE.2.2.2.2.2.2.2.2.1 hP 44 0 (cA := G.2 0) (x := (8000, .inl (σ.2.2.1 903))) rfl (by rw [hm.2.2.2.1]; rfl) (show Int32.ofNat 8000 = 8000 by decide) hd (k H locs ls hP hD hS hl)
set_option maxRecDepth 20000 in
theorem cs_th_held {i : Int32} {v : Int32} (hE : gOK E cc own ret hgt) (hm : cOK E l D G Q nL) (hd : decode cc pc = .ok (.iastore, 1)) (hi : vp_in i 8000) {P : CS → Prop} (h : ∀ σ1 : CS, σ1 = c_th_held_s σ i.toNatClampNeg v → P σ1) (k : ∀ σ1 : CS, P σ1 → GW E (cW G σ1) (pc + 1) L st) : GW E (cW G σ) pc L (.int v :: .int i :: .ref (G.1 904) :: st) := fun H locs ls hP hD hS hl =>
  va_iast hE.1 hE.2.1 hE.2.2.2.2.2.2.2.2.1 hP hD hS 44 0 (cA := G.2 0) (n := 8000) rfl (by rw [hm.2.2.2.1]; rfl) hi hd (fun H locs hP hD hS => k _ (h _ rfl) H locs ls hP hD hS hl)
set_option maxRecDepth 20000 in
theorem cg_th_many (hE : gOK E cc own ret hgt) (hm : cOK E l D G Q nL) (hlk : Cond.fieldLink own idx "FigureTexts$Things" "many" "I" ∈ gTb) (hd : decode cc pc = .ok (.getfield idx, 3)) (k : GW E (cW G σ) (pc + 3) L (.int (c_th_many σ) :: st)) : GW E (cW G σ) pc L (.ref (G.1 900) :: st) := fun H locs ls hP hD hS hl =>
  va_get (D := eD E) (ci := 7) (fs := cF_th G σ) (C := RX8) (T := TX8) (N := 5) hE.1 hE.2.1 hE.2.2.2.2.1 cIn_X8 hE.2.2.2.1 hE.2.2.2.2.2.2.2.2.1 hP 40 rfl (by rw [hm.2.2.1]; rfl) 4 (by decide) (hE.2.2.2.2.1 _ hlk) (fun _ h => h) rfl hd (k H locs ls hP hD hS hl)
set_option maxRecDepth 20000 in
theorem cp_th_many {v : Int32} (hE : gOK E cc own ret hgt) (hm : cOK E l D G Q nL) (hlk : Cond.fieldLink own idx "FigureTexts$Things" "many" "I" ∈ gTb) (hd : decode cc pc = .ok (.putfield idx, 3)) {P : CS → Prop} (h : ∀ σ1 : CS, σ1 = c_th_many_s σ v → P σ1) (k : ∀ σ1 : CS, P σ1 → GW E (cW G σ1) (pc + 3) L st) : GW E (cW G σ) pc L (.int v :: .ref (G.1 900) :: st) := fun H locs ls hP hD hS hl =>
  va_put (D := eD E) (ci := 7) (fs := cF_th G σ) (v := .int v) (ty := .int) (C := RX8) (T := TX8) (N := 5) hE.1 hE.2.1 hE.2.2.2.2.1 cIn_X8 tyX8 tyX8_ok nmX8 hE.2.2.2.1 hE.2.2.2.2.2.2.2.2.1 hP hD hS 40 rfl (by rw [hm.2.2.1]; rfl) 4 (by decide) (hE.2.2.2.2.1 _ hlk) (fun _ h => h) rfl (by decide +kernel) rfl rfl (Nat.le_of_ble_eq_true rfl) hd (fun H locs hP hD hS => k _ (h _ rfl) H locs ls hP hD hS hl)
set_option maxRecDepth 20000 in
theorem cg_fr_moved (hE : gOK E cc own ret hgt) (hm : cOK E l D G Q nL) (hlk : Cond.fieldLink own idx "FigureTexts$Frees" "moved" "[Z" ∈ gTb) (hd : decode cc pc = .ok (.getfield idx, 3)) (k : GW E (cW G σ) (pc + 3) L (.ref (G.1 1001) :: st)) : GW E (cW G σ) pc L (.ref (G.1 1000) :: st) := fun H locs ls hP hD hS hl =>
  va_get (D := eD E) (ci := 1) (fs := cF_fr G σ) (C := RX2) (T := TX2) (N := 8) hE.1 hE.2.1 hE.2.2.2.2.1 cIn_X2 hE.2.2.2.1 hE.2.2.2.2.2.2.2.2.1 hP 45 rfl (by rw [hm.2.2.1]; rfl) 0 (by decide) (hE.2.2.2.2.1 _ hlk) (fun _ h => h) rfl hd (k H locs ls hP hD hS hl)
set_option maxRecDepth 20000 in
theorem cl_fr_moved {i : Int32} (hE : gOK E cc own ret hgt) (hm : cOK E l D G Q nL) (hd : decode cc pc = .ok (.baload, 1)) (hi : vp_in i 12) (k : GW E (cW G σ) (pc + 1) L (.int (c_fr_moved σ i.toNatClampNeg) :: st)) : GW E (cW G σ) pc L (.int i :: .ref (G.1 1001) :: st) := fun H locs ls hP hD hS hl =>
  va_zald hE.1 hE.2.1 hE.2.2.2.2.2.2.2.2.1 hP 46 4 (cA := G.2 4) (n := 12) rfl (by rw [hm.2.2.2.1]; rfl) hi hd (k H locs ls hP hD hS hl)
set_option maxRecDepth 20000 in
theorem cn_fr_moved (hE : gOK E cc own ret hgt) (hm : cOK E l D G Q nL) (hd : decode cc pc = .ok (.arraylength, 1)) (k : GW E (cW G σ) (pc + 1) L (.int 12 :: st)) : GW E (cW G σ) pc L (.ref (G.1 1001) :: st) := fun H locs ls hP hD hS hl =>
  va_alen hE.1 hE.2.1 hE.2.2.2.2.2.2.2.2.1 hP 46 4 (cA := G.2 4) (x := (12, .inl (σ.2.2.1 1000))) rfl (by rw [hm.2.2.2.1]; rfl) (show Int32.ofNat 12 = 12 by decide) hd (k H locs ls hP hD hS hl)
set_option maxRecDepth 20000 in
theorem cs_fr_moved {i : Int32} {v : Int32} (hE : gOK E cc own ret hgt) (hm : cOK E l D G Q nL) (hd : decode cc pc = .ok (.bastore, 1)) (hi : vp_in i 12) (hb : isB v) {P : CS → Prop} (h : ∀ σ1 : CS, σ1 = c_fr_moved_s σ i.toNatClampNeg v → P σ1) (k : ∀ σ1 : CS, P σ1 → GW E (cW G σ1) (pc + 1) L st) : GW E (cW G σ) pc L (.int v :: .int i :: .ref (G.1 1001) :: st) := fun H locs ls hP hD hS hl =>
  va_zast hE.1 hE.2.1 hE.2.2.2.2.2.2.2.2.1 hP hD hS 46 4 (cA := G.2 4) (n := 12) rfl (by rw [hm.2.2.2.1]; rfl) hi hd (fun H locs hP hD hS => k _ (h _ rfl) H locs ls (by rw [isB_v hb] at hP; exact hP) (by rw [isB_v hb] at hD; exact hD) hS hl)
set_option maxRecDepth 20000 in
theorem cg_fr_toX (hE : gOK E cc own ret hgt) (hm : cOK E l D G Q nL) (hlk : Cond.fieldLink own idx "FigureTexts$Frees" "toX" "[J" ∈ gTb) (hd : decode cc pc = .ok (.getfield idx, 3)) (k : GW E (cW G σ) (pc + 3) L (.ref (G.1 1002) :: st)) : GW E (cW G σ) pc L (.ref (G.1 1000) :: st) := fun H locs ls hP hD hS hl =>
  va_get (D := eD E) (ci := 1) (fs := cF_fr G σ) (C := RX2) (T := TX2) (N := 8) hE.1 hE.2.1 hE.2.2.2.2.1 cIn_X2 hE.2.2.2.1 hE.2.2.2.2.2.2.2.2.1 hP 45 rfl (by rw [hm.2.2.1]; rfl) 1 (by decide) (hE.2.2.2.2.1 _ hlk) (fun _ h => h) rfl hd (k H locs ls hP hD hS hl)
set_option maxRecDepth 20000 in
theorem cl_fr_toX {i : Int32} (hE : gOK E cc own ret hgt) (hm : cOK E l D G Q nL) (hd : decode cc pc = .ok (.laload, 1)) (hi : vp_in i 12) (k : GW E (cW G σ) (pc + 1) L (.long (c_fr_toX σ i.toNatClampNeg) :: st)) : GW E (cW G σ) pc L (.int i :: .ref (G.1 1002) :: st) := fun H locs ls hP hD hS hl =>
  va_lald hE.1 hE.2.1 hE.2.2.2.2.2.2.2.2.1 hP 47 1 (cA := G.2 1) (n := 12) rfl (by rw [hm.2.2.2.1]; rfl) hi hd (k H locs ls hP hD hS hl)
set_option maxRecDepth 20000 in
theorem cn_fr_toX (hE : gOK E cc own ret hgt) (hm : cOK E l D G Q nL) (hd : decode cc pc = .ok (.arraylength, 1)) (k : GW E (cW G σ) (pc + 1) L (.int 12 :: st)) : GW E (cW G σ) pc L (.ref (G.1 1002) :: st) := fun H locs ls hP hD hS hl =>
  va_alen hE.1 hE.2.1 hE.2.2.2.2.2.2.2.2.1 hP 47 1 (cA := G.2 1) (x := (12, .inr (.inl (σ.2.2.2.1 1001)))) rfl (by rw [hm.2.2.2.1]; rfl) (show Int32.ofNat 12 = 12 by decide) hd (k H locs ls hP hD hS hl)
set_option maxRecDepth 20000 in
theorem cs_fr_toX {i : Int32} {v : Int64} (hE : gOK E cc own ret hgt) (hm : cOK E l D G Q nL) (hd : decode cc pc = .ok (.lastore, 1)) (hi : vp_in i 12) {P : CS → Prop} (h : ∀ σ1 : CS, σ1 = c_fr_toX_s σ i.toNatClampNeg v → P σ1) (k : ∀ σ1 : CS, P σ1 → GW E (cW G σ1) (pc + 1) L st) : GW E (cW G σ) pc L (.long v :: .int i :: .ref (G.1 1002) :: st) := fun H locs ls hP hD hS hl =>
  va_last hE.1 hE.2.1 hE.2.2.2.2.2.2.2.2.1 hP hD hS 47 1 (cA := G.2 1) (n := 12) rfl (by rw [hm.2.2.2.1]; rfl) hi hd (fun H locs hP hD hS => k _ (h _ rfl) H locs ls hP hD hS hl)
set_option maxRecDepth 20000 in
theorem cg_fr_toY (hE : gOK E cc own ret hgt) (hm : cOK E l D G Q nL) (hlk : Cond.fieldLink own idx "FigureTexts$Frees" "toY" "[J" ∈ gTb) (hd : decode cc pc = .ok (.getfield idx, 3)) (k : GW E (cW G σ) (pc + 3) L (.ref (G.1 1003) :: st)) : GW E (cW G σ) pc L (.ref (G.1 1000) :: st) := fun H locs ls hP hD hS hl =>
  va_get (D := eD E) (ci := 1) (fs := cF_fr G σ) (C := RX2) (T := TX2) (N := 8) hE.1 hE.2.1 hE.2.2.2.2.1 cIn_X2 hE.2.2.2.1 hE.2.2.2.2.2.2.2.2.1 hP 45 rfl (by rw [hm.2.2.1]; rfl) 2 (by decide) (hE.2.2.2.2.1 _ hlk) (fun _ h => h) rfl hd (k H locs ls hP hD hS hl)
set_option maxRecDepth 20000 in
theorem cl_fr_toY {i : Int32} (hE : gOK E cc own ret hgt) (hm : cOK E l D G Q nL) (hd : decode cc pc = .ok (.laload, 1)) (hi : vp_in i 12) (k : GW E (cW G σ) (pc + 1) L (.long (c_fr_toY σ i.toNatClampNeg) :: st)) : GW E (cW G σ) pc L (.int i :: .ref (G.1 1003) :: st) := fun H locs ls hP hD hS hl =>
  va_lald hE.1 hE.2.1 hE.2.2.2.2.2.2.2.2.1 hP 48 1 (cA := G.2 1) (n := 12) rfl (by rw [hm.2.2.2.1]; rfl) hi hd (k H locs ls hP hD hS hl)
set_option maxRecDepth 20000 in
theorem cn_fr_toY (hE : gOK E cc own ret hgt) (hm : cOK E l D G Q nL) (hd : decode cc pc = .ok (.arraylength, 1)) (k : GW E (cW G σ) (pc + 1) L (.int 12 :: st)) : GW E (cW G σ) pc L (.ref (G.1 1003) :: st) := fun H locs ls hP hD hS hl =>
  va_alen hE.1 hE.2.1 hE.2.2.2.2.2.2.2.2.1 hP 48 1 (cA := G.2 1) (x := (12, .inr (.inl (σ.2.2.2.1 1002)))) rfl (by rw [hm.2.2.2.1]; rfl) (show Int32.ofNat 12 = 12 by decide) hd (k H locs ls hP hD hS hl)
set_option maxRecDepth 20000 in
theorem cs_fr_toY {i : Int32} {v : Int64} (hE : gOK E cc own ret hgt) (hm : cOK E l D G Q nL) (hd : decode cc pc = .ok (.lastore, 1)) (hi : vp_in i 12) {P : CS → Prop} (h : ∀ σ1 : CS, σ1 = c_fr_toY_s σ i.toNatClampNeg v → P σ1) (k : ∀ σ1 : CS, P σ1 → GW E (cW G σ1) (pc + 1) L st) : GW E (cW G σ) pc L (.long v :: .int i :: .ref (G.1 1003) :: st) := fun H locs ls hP hD hS hl =>
  va_last hE.1 hE.2.1 hE.2.2.2.2.2.2.2.2.1 hP hD hS 48 1 (cA := G.2 1) (n := 12) rfl (by rw [hm.2.2.2.1]; rfl) hi hd (fun H locs hP hD hS => k _ (h _ rfl) H locs ls hP hD hS hl)
set_option maxRecDepth 20000 in
theorem cg_fr_wasMoved (hE : gOK E cc own ret hgt) (hm : cOK E l D G Q nL) (hlk : Cond.fieldLink own idx "FigureTexts$Frees" "wasMoved" "[Z" ∈ gTb) (hd : decode cc pc = .ok (.getfield idx, 3)) (k : GW E (cW G σ) (pc + 3) L (.ref (G.1 1004) :: st)) : GW E (cW G σ) pc L (.ref (G.1 1000) :: st) := fun H locs ls hP hD hS hl =>
  va_get (D := eD E) (ci := 1) (fs := cF_fr G σ) (C := RX2) (T := TX2) (N := 8) hE.1 hE.2.1 hE.2.2.2.2.1 cIn_X2 hE.2.2.2.1 hE.2.2.2.2.2.2.2.2.1 hP 45 rfl (by rw [hm.2.2.1]; rfl) 3 (by decide) (hE.2.2.2.2.1 _ hlk) (fun _ h => h) rfl hd (k H locs ls hP hD hS hl)
set_option maxRecDepth 20000 in
theorem cl_fr_wasMoved {i : Int32} (hE : gOK E cc own ret hgt) (hm : cOK E l D G Q nL) (hd : decode cc pc = .ok (.baload, 1)) (hi : vp_in i 12) (k : GW E (cW G σ) (pc + 1) L (.int (c_fr_wasMoved σ i.toNatClampNeg) :: st)) : GW E (cW G σ) pc L (.int i :: .ref (G.1 1004) :: st) := fun H locs ls hP hD hS hl =>
  va_zald hE.1 hE.2.1 hE.2.2.2.2.2.2.2.2.1 hP 49 4 (cA := G.2 4) (n := 12) rfl (by rw [hm.2.2.2.1]; rfl) hi hd (k H locs ls hP hD hS hl)
set_option maxRecDepth 20000 in
theorem cn_fr_wasMoved (hE : gOK E cc own ret hgt) (hm : cOK E l D G Q nL) (hd : decode cc pc = .ok (.arraylength, 1)) (k : GW E (cW G σ) (pc + 1) L (.int 12 :: st)) : GW E (cW G σ) pc L (.ref (G.1 1004) :: st) := fun H locs ls hP hD hS hl =>
  va_alen hE.1 hE.2.1 hE.2.2.2.2.2.2.2.2.1 hP 49 4 (cA := G.2 4) (x := (12, .inl (σ.2.2.1 1003))) rfl (by rw [hm.2.2.2.1]; rfl) (show Int32.ofNat 12 = 12 by decide) hd (k H locs ls hP hD hS hl)
set_option maxRecDepth 20000 in
theorem cs_fr_wasMoved {i : Int32} {v : Int32} (hE : gOK E cc own ret hgt) (hm : cOK E l D G Q nL) (hd : decode cc pc = .ok (.bastore, 1)) (hi : vp_in i 12) (hb : isB v) {P : CS → Prop} (h : ∀ σ1 : CS, σ1 = c_fr_wasMoved_s σ i.toNatClampNeg v → P σ1) (k : ∀ σ1 : CS, P σ1 → GW E (cW G σ1) (pc + 1) L st) : GW E (cW G σ) pc L (.int v :: .int i :: .ref (G.1 1004) :: st) := fun H locs ls hP hD hS hl =>
  va_zast hE.1 hE.2.1 hE.2.2.2.2.2.2.2.2.1 hP hD hS 49 4 (cA := G.2 4) (n := 12) rfl (by rw [hm.2.2.2.1]; rfl) hi hd (fun H locs hP hD hS => k _ (h _ rfl) H locs ls (by rw [isB_v hb] at hP; exact hP) (by rw [isB_v hb] at hD; exact hD) hS hl)
set_option maxRecDepth 20000 in
theorem cg_fr_wasX (hE : gOK E cc own ret hgt) (hm : cOK E l D G Q nL) (hlk : Cond.fieldLink own idx "FigureTexts$Frees" "wasX" "[J" ∈ gTb) (hd : decode cc pc = .ok (.getfield idx, 3)) (k : GW E (cW G σ) (pc + 3) L (.ref (G.1 1005) :: st)) : GW E (cW G σ) pc L (.ref (G.1 1000) :: st) := fun H locs ls hP hD hS hl =>
  va_get (D := eD E) (ci := 1) (fs := cF_fr G σ) (C := RX2) (T := TX2) (N := 8) hE.1 hE.2.1 hE.2.2.2.2.1 cIn_X2 hE.2.2.2.1 hE.2.2.2.2.2.2.2.2.1 hP 45 rfl (by rw [hm.2.2.1]; rfl) 4 (by decide) (hE.2.2.2.2.1 _ hlk) (fun _ h => h) rfl hd (k H locs ls hP hD hS hl)
set_option maxRecDepth 20000 in
theorem cl_fr_wasX {i : Int32} (hE : gOK E cc own ret hgt) (hm : cOK E l D G Q nL) (hd : decode cc pc = .ok (.laload, 1)) (hi : vp_in i 12) (k : GW E (cW G σ) (pc + 1) L (.long (c_fr_wasX σ i.toNatClampNeg) :: st)) : GW E (cW G σ) pc L (.int i :: .ref (G.1 1005) :: st) := fun H locs ls hP hD hS hl =>
  va_lald hE.1 hE.2.1 hE.2.2.2.2.2.2.2.2.1 hP 50 1 (cA := G.2 1) (n := 12) rfl (by rw [hm.2.2.2.1]; rfl) hi hd (k H locs ls hP hD hS hl)
set_option maxRecDepth 20000 in
theorem cn_fr_wasX (hE : gOK E cc own ret hgt) (hm : cOK E l D G Q nL) (hd : decode cc pc = .ok (.arraylength, 1)) (k : GW E (cW G σ) (pc + 1) L (.int 12 :: st)) : GW E (cW G σ) pc L (.ref (G.1 1005) :: st) := fun H locs ls hP hD hS hl =>
  va_alen hE.1 hE.2.1 hE.2.2.2.2.2.2.2.2.1 hP 50 1 (cA := G.2 1) (x := (12, .inr (.inl (σ.2.2.2.1 1004)))) rfl (by rw [hm.2.2.2.1]; rfl) (show Int32.ofNat 12 = 12 by decide) hd (k H locs ls hP hD hS hl)
set_option maxRecDepth 20000 in
theorem cs_fr_wasX {i : Int32} {v : Int64} (hE : gOK E cc own ret hgt) (hm : cOK E l D G Q nL) (hd : decode cc pc = .ok (.lastore, 1)) (hi : vp_in i 12) {P : CS → Prop} (h : ∀ σ1 : CS, σ1 = c_fr_wasX_s σ i.toNatClampNeg v → P σ1) (k : ∀ σ1 : CS, P σ1 → GW E (cW G σ1) (pc + 1) L st) : GW E (cW G σ) pc L (.long v :: .int i :: .ref (G.1 1005) :: st) := fun H locs ls hP hD hS hl =>
  va_last hE.1 hE.2.1 hE.2.2.2.2.2.2.2.2.1 hP hD hS 50 1 (cA := G.2 1) (n := 12) rfl (by rw [hm.2.2.2.1]; rfl) hi hd (fun H locs hP hD hS => k _ (h _ rfl) H locs ls hP hD hS hl)
set_option maxRecDepth 20000 in
theorem cg_fr_wasY (hE : gOK E cc own ret hgt) (hm : cOK E l D G Q nL) (hlk : Cond.fieldLink own idx "FigureTexts$Frees" "wasY" "[J" ∈ gTb) (hd : decode cc pc = .ok (.getfield idx, 3)) (k : GW E (cW G σ) (pc + 3) L (.ref (G.1 1006) :: st)) : GW E (cW G σ) pc L (.ref (G.1 1000) :: st) := fun H locs ls hP hD hS hl =>
  va_get (D := eD E) (ci := 1) (fs := cF_fr G σ) (C := RX2) (T := TX2) (N := 8) hE.1 hE.2.1 hE.2.2.2.2.1 cIn_X2 hE.2.2.2.1 hE.2.2.2.2.2.2.2.2.1 hP 45 rfl (by rw [hm.2.2.1]; rfl) 5 (by decide) (hE.2.2.2.2.1 _ hlk) (fun _ h => h) rfl hd (k H locs ls hP hD hS hl)
set_option maxRecDepth 20000 in
theorem cl_fr_wasY {i : Int32} (hE : gOK E cc own ret hgt) (hm : cOK E l D G Q nL) (hd : decode cc pc = .ok (.laload, 1)) (hi : vp_in i 12) (k : GW E (cW G σ) (pc + 1) L (.long (c_fr_wasY σ i.toNatClampNeg) :: st)) : GW E (cW G σ) pc L (.int i :: .ref (G.1 1006) :: st) := fun H locs ls hP hD hS hl =>
  va_lald hE.1 hE.2.1 hE.2.2.2.2.2.2.2.2.1 hP 51 1 (cA := G.2 1) (n := 12) rfl (by rw [hm.2.2.2.1]; rfl) hi hd (k H locs ls hP hD hS hl)
set_option maxRecDepth 20000 in
theorem cn_fr_wasY (hE : gOK E cc own ret hgt) (hm : cOK E l D G Q nL) (hd : decode cc pc = .ok (.arraylength, 1)) (k : GW E (cW G σ) (pc + 1) L (.int 12 :: st)) : GW E (cW G σ) pc L (.ref (G.1 1006) :: st) := fun H locs ls hP hD hS hl =>
  va_alen hE.1 hE.2.1 hE.2.2.2.2.2.2.2.2.1 hP 51 1 (cA := G.2 1) (x := (12, .inr (.inl (σ.2.2.2.1 1005)))) rfl (by rw [hm.2.2.2.1]; rfl) (show Int32.ofNat 12 = 12 by decide) hd (k H locs ls hP hD hS hl)
set_option maxRecDepth 20000 in
theorem cs_fr_wasY {i : Int32} {v : Int64} (hE : gOK E cc own ret hgt) (hm : cOK E l D G Q nL) (hd : decode cc pc = .ok (.lastore, 1)) (hi : vp_in i 12) {P : CS → Prop} (h : ∀ σ1 : CS, σ1 = c_fr_wasY_s σ i.toNatClampNeg v → P σ1) (k : ∀ σ1 : CS, P σ1 → GW E (cW G σ1) (pc + 1) L st) : GW E (cW G σ) pc L (.long v :: .int i :: .ref (G.1 1006) :: st) := fun H locs ls hP hD hS hl =>
  va_last hE.1 hE.2.1 hE.2.2.2.2.2.2.2.2.1 hP hD hS 51 1 (cA := G.2 1) (n := 12) rfl (by rw [hm.2.2.2.1]; rfl) hi hd (fun H locs hP hD hS => k _ (h _ rfl) H locs ls hP hD hS hl)
set_option maxRecDepth 20000 in
theorem cg_fr_thing (hE : gOK E cc own ret hgt) (hm : cOK E l D G Q nL) (hlk : Cond.fieldLink own idx "FigureTexts$Frees" "thing" "[I" ∈ gTb) (hd : decode cc pc = .ok (.getfield idx, 3)) (k : GW E (cW G σ) (pc + 3) L (.ref (G.1 1007) :: st)) : GW E (cW G σ) pc L (.ref (G.1 1000) :: st) := fun H locs ls hP hD hS hl =>
  va_get (D := eD E) (ci := 1) (fs := cF_fr G σ) (C := RX2) (T := TX2) (N := 8) hE.1 hE.2.1 hE.2.2.2.2.1 cIn_X2 hE.2.2.2.1 hE.2.2.2.2.2.2.2.2.1 hP 45 rfl (by rw [hm.2.2.1]; rfl) 6 (by decide) (hE.2.2.2.2.1 _ hlk) (fun _ h => h) rfl hd (k H locs ls hP hD hS hl)
set_option maxRecDepth 20000 in
theorem cl_fr_thing {i : Int32} (hE : gOK E cc own ret hgt) (hm : cOK E l D G Q nL) (hd : decode cc pc = .ok (.iaload, 1)) (hi : vp_in i 12) (k : GW E (cW G σ) (pc + 1) L (.int (c_fr_thing σ i.toNatClampNeg) :: st)) : GW E (cW G σ) pc L (.int i :: .ref (G.1 1007) :: st) := fun H locs ls hP hD hS hl =>
  va_iald hE.1 hE.2.1 hE.2.2.2.2.2.2.2.2.1 hP 52 0 (cA := G.2 0) (n := 12) rfl (by rw [hm.2.2.2.1]; rfl) hi hd (k H locs ls hP hD hS hl)
set_option maxRecDepth 20000 in
theorem cn_fr_thing (hE : gOK E cc own ret hgt) (hm : cOK E l D G Q nL) (hd : decode cc pc = .ok (.arraylength, 1)) (k : GW E (cW G σ) (pc + 1) L (.int 12 :: st)) : GW E (cW G σ) pc L (.ref (G.1 1007) :: st) := fun H locs ls hP hD hS hl =>
  va_alen hE.1 hE.2.1 hE.2.2.2.2.2.2.2.2.1 hP 52 0 (cA := G.2 0) (x := (12, .inl (σ.2.2.1 1006))) rfl (by rw [hm.2.2.2.1]; rfl) (show Int32.ofNat 12 = 12 by decide) hd (k H locs ls hP hD hS hl)
set_option maxRecDepth 20000 in
theorem cs_fr_thing {i : Int32} {v : Int32} (hE : gOK E cc own ret hgt) (hm : cOK E l D G Q nL) (hd : decode cc pc = .ok (.iastore, 1)) (hi : vp_in i 12) {P : CS → Prop} (h : ∀ σ1 : CS, σ1 = c_fr_thing_s σ i.toNatClampNeg v → P σ1) (k : ∀ σ1 : CS, P σ1 → GW E (cW G σ1) (pc + 1) L st) : GW E (cW G σ) pc L (.int v :: .int i :: .ref (G.1 1007) :: st) := fun H locs ls hP hD hS hl =>
  va_iast hE.1 hE.2.1 hE.2.2.2.2.2.2.2.2.1 hP hD hS 52 0 (cA := G.2 0) (n := 12) rfl (by rw [hm.2.2.2.1]; rfl) hi hd (fun H locs hP hD hS => k _ (h _ rfl) H locs ls hP hD hS hl)
set_option maxRecDepth 20000 in
theorem cg_fr_came (hE : gOK E cc own ret hgt) (hm : cOK E l D G Q nL) (hlk : Cond.fieldLink own idx "FigureTexts$Frees" "came" "I" ∈ gTb) (hd : decode cc pc = .ok (.getfield idx, 3)) (k : GW E (cW G σ) (pc + 3) L (.int (c_fr_came σ) :: st)) : GW E (cW G σ) pc L (.ref (G.1 1000) :: st) := fun H locs ls hP hD hS hl =>
  va_get (D := eD E) (ci := 1) (fs := cF_fr G σ) (C := RX2) (T := TX2) (N := 8) hE.1 hE.2.1 hE.2.2.2.2.1 cIn_X2 hE.2.2.2.1 hE.2.2.2.2.2.2.2.2.1 hP 45 rfl (by rw [hm.2.2.1]; rfl) 7 (by decide) (hE.2.2.2.2.1 _ hlk) (fun _ h => h) rfl hd (k H locs ls hP hD hS hl)
set_option maxRecDepth 20000 in
theorem cp_fr_came {v : Int32} (hE : gOK E cc own ret hgt) (hm : cOK E l D G Q nL) (hlk : Cond.fieldLink own idx "FigureTexts$Frees" "came" "I" ∈ gTb) (hd : decode cc pc = .ok (.putfield idx, 3)) {P : CS → Prop} (h : ∀ σ1 : CS, σ1 = c_fr_came_s σ v → P σ1) (k : ∀ σ1 : CS, P σ1 → GW E (cW G σ1) (pc + 3) L st) : GW E (cW G σ) pc L (.int v :: .ref (G.1 1000) :: st) := fun H locs ls hP hD hS hl =>
  va_put (D := eD E) (ci := 1) (fs := cF_fr G σ) (v := .int v) (ty := .int) (C := RX2) (T := TX2) (N := 8) hE.1 hE.2.1 hE.2.2.2.2.1 cIn_X2 tyX2 tyX2_ok nmX2 hE.2.2.2.1 hE.2.2.2.2.2.2.2.2.1 hP hD hS 45 rfl (by rw [hm.2.2.1]; rfl) 7 (by decide) (hE.2.2.2.2.1 _ hlk) (fun _ h => h) rfl (by decide +kernel) rfl rfl (Nat.le_of_ble_eq_true rfl) hd (fun H locs hP hD hS => k _ (h _ rfl) H locs ls hP hD hS hl)
set_option maxRecDepth 20000 in
theorem cg_to_drawn (hE : gOK E cc own ret hgt) (hm : cOK E l D G Q nL) (hlk : Cond.fieldLink own idx "FigureTexts$Told" "drawn" "[I" ∈ gTb) (hd : decode cc pc = .ok (.getfield idx, 3)) (k : GW E (cW G σ) (pc + 3) L (.ref (G.1 1101) :: st)) : GW E (cW G σ) pc L (.ref (G.1 1100) :: st) := fun H locs ls hP hD hS hl =>
  va_get (D := eD E) (ci := 8) (fs := cF_to G σ) (C := RX9) (T := TX9) (N := 9) hE.1 hE.2.1 hE.2.2.2.2.1 cIn_X9 hE.2.2.2.1 hE.2.2.2.2.2.2.2.2.1 hP 53 rfl (by rw [hm.2.2.1]; rfl) 0 (by decide) (hE.2.2.2.2.1 _ hlk) (fun _ h => h) rfl hd (k H locs ls hP hD hS hl)
set_option maxRecDepth 20000 in
theorem cl_to_drawn {i : Int32} (hE : gOK E cc own ret hgt) (hm : cOK E l D G Q nL) (hd : decode cc pc = .ok (.iaload, 1)) (hi : vp_in i 40) (k : GW E (cW G σ) (pc + 1) L (.int (c_to_drawn σ i.toNatClampNeg) :: st)) : GW E (cW G σ) pc L (.int i :: .ref (G.1 1101) :: st) := fun H locs ls hP hD hS hl =>
  va_iald hE.1 hE.2.1 hE.2.2.2.2.2.2.2.2.1 hP 54 0 (cA := G.2 0) (n := 40) rfl (by rw [hm.2.2.2.1]; rfl) hi hd (k H locs ls hP hD hS hl)
set_option maxRecDepth 20000 in
theorem cn_to_drawn (hE : gOK E cc own ret hgt) (hm : cOK E l D G Q nL) (hd : decode cc pc = .ok (.arraylength, 1)) (k : GW E (cW G σ) (pc + 1) L (.int 40 :: st)) : GW E (cW G σ) pc L (.ref (G.1 1101) :: st) := fun H locs ls hP hD hS hl =>
  va_alen hE.1 hE.2.1 hE.2.2.2.2.2.2.2.2.1 hP 54 0 (cA := G.2 0) (x := (40, .inl (σ.2.2.1 1100))) rfl (by rw [hm.2.2.2.1]; rfl) (show Int32.ofNat 40 = 40 by decide) hd (k H locs ls hP hD hS hl)
set_option maxRecDepth 20000 in
theorem cs_to_drawn {i : Int32} {v : Int32} (hE : gOK E cc own ret hgt) (hm : cOK E l D G Q nL) (hd : decode cc pc = .ok (.iastore, 1)) (hi : vp_in i 40) {P : CS → Prop} (h : ∀ σ1 : CS, σ1 = c_to_drawn_s σ i.toNatClampNeg v → P σ1) (k : ∀ σ1 : CS, P σ1 → GW E (cW G σ1) (pc + 1) L st) : GW E (cW G σ) pc L (.int v :: .int i :: .ref (G.1 1101) :: st) := fun H locs ls hP hD hS hl =>
  va_iast hE.1 hE.2.1 hE.2.2.2.2.2.2.2.2.1 hP hD hS 54 0 (cA := G.2 0) (n := 40) rfl (by rw [hm.2.2.2.1]; rfl) hi hd (fun H locs hP hD hS => k _ (h _ rfl) H locs ls hP hD hS hl)
set_option maxRecDepth 20000 in
theorem cg_to_stated (hE : gOK E cc own ret hgt) (hm : cOK E l D G Q nL) (hlk : Cond.fieldLink own idx "FigureTexts$Told" "stated" "[I" ∈ gTb) (hd : decode cc pc = .ok (.getfield idx, 3)) (k : GW E (cW G σ) (pc + 3) L (.ref (G.1 1102) :: st)) : GW E (cW G σ) pc L (.ref (G.1 1100) :: st) := fun H locs ls hP hD hS hl =>
  va_get (D := eD E) (ci := 8) (fs := cF_to G σ) (C := RX9) (T := TX9) (N := 9) hE.1 hE.2.1 hE.2.2.2.2.1 cIn_X9 hE.2.2.2.1 hE.2.2.2.2.2.2.2.2.1 hP 53 rfl (by rw [hm.2.2.1]; rfl) 1 (by decide) (hE.2.2.2.2.1 _ hlk) (fun _ h => h) rfl hd (k H locs ls hP hD hS hl)
set_option maxRecDepth 20000 in
theorem cl_to_stated {i : Int32} (hE : gOK E cc own ret hgt) (hm : cOK E l D G Q nL) (hd : decode cc pc = .ok (.iaload, 1)) (hi : vp_in i 40) (k : GW E (cW G σ) (pc + 1) L (.int (c_to_stated σ i.toNatClampNeg) :: st)) : GW E (cW G σ) pc L (.int i :: .ref (G.1 1102) :: st) := fun H locs ls hP hD hS hl =>
  va_iald hE.1 hE.2.1 hE.2.2.2.2.2.2.2.2.1 hP 55 0 (cA := G.2 0) (n := 40) rfl (by rw [hm.2.2.2.1]; rfl) hi hd (k H locs ls hP hD hS hl)
set_option maxRecDepth 20000 in
theorem cn_to_stated (hE : gOK E cc own ret hgt) (hm : cOK E l D G Q nL) (hd : decode cc pc = .ok (.arraylength, 1)) (k : GW E (cW G σ) (pc + 1) L (.int 40 :: st)) : GW E (cW G σ) pc L (.ref (G.1 1102) :: st) := fun H locs ls hP hD hS hl =>
  va_alen hE.1 hE.2.1 hE.2.2.2.2.2.2.2.2.1 hP 55 0 (cA := G.2 0) (x := (40, .inl (σ.2.2.1 1101))) rfl (by rw [hm.2.2.2.1]; rfl) (show Int32.ofNat 40 = 40 by decide) hd (k H locs ls hP hD hS hl)
set_option maxRecDepth 20000 in
theorem cs_to_stated {i : Int32} {v : Int32} (hE : gOK E cc own ret hgt) (hm : cOK E l D G Q nL) (hd : decode cc pc = .ok (.iastore, 1)) (hi : vp_in i 40) {P : CS → Prop} (h : ∀ σ1 : CS, σ1 = c_to_stated_s σ i.toNatClampNeg v → P σ1) (k : ∀ σ1 : CS, P σ1 → GW E (cW G σ1) (pc + 1) L st) : GW E (cW G σ) pc L (.int v :: .int i :: .ref (G.1 1102) :: st) := fun H locs ls hP hD hS hl =>
  va_iast hE.1 hE.2.1 hE.2.2.2.2.2.2.2.2.1 hP hD hS 55 0 (cA := G.2 0) (n := 40) rfl (by rw [hm.2.2.2.1]; rfl) hi hd (fun H locs hP hD hS => k _ (h _ rfl) H locs ls hP hD hS hl)
set_option maxRecDepth 20000 in
theorem cg_to_failures (hE : gOK E cc own ret hgt) (hm : cOK E l D G Q nL) (hlk : Cond.fieldLink own idx "FigureTexts$Told" "failures" "[I" ∈ gTb) (hd : decode cc pc = .ok (.getfield idx, 3)) (k : GW E (cW G σ) (pc + 3) L (.ref (G.1 1103) :: st)) : GW E (cW G σ) pc L (.ref (G.1 1100) :: st) := fun H locs ls hP hD hS hl =>
  va_get (D := eD E) (ci := 8) (fs := cF_to G σ) (C := RX9) (T := TX9) (N := 9) hE.1 hE.2.1 hE.2.2.2.2.1 cIn_X9 hE.2.2.2.1 hE.2.2.2.2.2.2.2.2.1 hP 53 rfl (by rw [hm.2.2.1]; rfl) 2 (by decide) (hE.2.2.2.2.1 _ hlk) (fun _ h => h) rfl hd (k H locs ls hP hD hS hl)
set_option maxRecDepth 20000 in
theorem cl_to_failures {i : Int32} (hE : gOK E cc own ret hgt) (hm : cOK E l D G Q nL) (hd : decode cc pc = .ok (.iaload, 1)) (hi : vp_in i 12) (k : GW E (cW G σ) (pc + 1) L (.int (c_to_failures σ i.toNatClampNeg) :: st)) : GW E (cW G σ) pc L (.int i :: .ref (G.1 1103) :: st) := fun H locs ls hP hD hS hl =>
  va_iald hE.1 hE.2.1 hE.2.2.2.2.2.2.2.2.1 hP 56 0 (cA := G.2 0) (n := 12) rfl (by rw [hm.2.2.2.1]; rfl) hi hd (k H locs ls hP hD hS hl)
set_option maxRecDepth 20000 in
theorem cn_to_failures (hE : gOK E cc own ret hgt) (hm : cOK E l D G Q nL) (hd : decode cc pc = .ok (.arraylength, 1)) (k : GW E (cW G σ) (pc + 1) L (.int 12 :: st)) : GW E (cW G σ) pc L (.ref (G.1 1103) :: st) := fun H locs ls hP hD hS hl =>
  va_alen hE.1 hE.2.1 hE.2.2.2.2.2.2.2.2.1 hP 56 0 (cA := G.2 0) (x := (12, .inl (σ.2.2.1 1102))) rfl (by rw [hm.2.2.2.1]; rfl) (show Int32.ofNat 12 = 12 by decide) hd (k H locs ls hP hD hS hl)
set_option maxRecDepth 20000 in
theorem cs_to_failures {i : Int32} {v : Int32} (hE : gOK E cc own ret hgt) (hm : cOK E l D G Q nL) (hd : decode cc pc = .ok (.iastore, 1)) (hi : vp_in i 12) {P : CS → Prop} (h : ∀ σ1 : CS, σ1 = c_to_failures_s σ i.toNatClampNeg v → P σ1) (k : ∀ σ1 : CS, P σ1 → GW E (cW G σ1) (pc + 1) L st) : GW E (cW G σ) pc L (.int v :: .int i :: .ref (G.1 1103) :: st) := fun H locs ls hP hD hS hl =>
  va_iast hE.1 hE.2.1 hE.2.2.2.2.2.2.2.2.1 hP hD hS 56 0 (cA := G.2 0) (n := 12) rfl (by rw [hm.2.2.2.1]; rfl) hi hd (fun H locs hP hD hS => k _ (h _ rfl) H locs ls hP hD hS hl)
set_option maxRecDepth 20000 in
theorem cg_to_bytes (hE : gOK E cc own ret hgt) (hm : cOK E l D G Q nL) (hlk : Cond.fieldLink own idx "FigureTexts$Told" "bytes" "[I" ∈ gTb) (hd : decode cc pc = .ok (.getfield idx, 3)) (k : GW E (cW G σ) (pc + 3) L (.ref (G.1 1104) :: st)) : GW E (cW G σ) pc L (.ref (G.1 1100) :: st) := fun H locs ls hP hD hS hl =>
  va_get (D := eD E) (ci := 8) (fs := cF_to G σ) (C := RX9) (T := TX9) (N := 9) hE.1 hE.2.1 hE.2.2.2.2.1 cIn_X9 hE.2.2.2.1 hE.2.2.2.2.2.2.2.2.1 hP 53 rfl (by rw [hm.2.2.1]; rfl) 3 (by decide) (hE.2.2.2.2.1 _ hlk) (fun _ h => h) rfl hd (k H locs ls hP hD hS hl)
set_option maxRecDepth 20000 in
theorem cl_to_bytes {i : Int32} (hE : gOK E cc own ret hgt) (hm : cOK E l D G Q nL) (hd : decode cc pc = .ok (.iaload, 1)) (hi : vp_in i 12) (k : GW E (cW G σ) (pc + 1) L (.int (c_to_bytes σ i.toNatClampNeg) :: st)) : GW E (cW G σ) pc L (.int i :: .ref (G.1 1104) :: st) := fun H locs ls hP hD hS hl =>
  va_iald hE.1 hE.2.1 hE.2.2.2.2.2.2.2.2.1 hP 57 0 (cA := G.2 0) (n := 12) rfl (by rw [hm.2.2.2.1]; rfl) hi hd (k H locs ls hP hD hS hl)
set_option maxRecDepth 20000 in
theorem cn_to_bytes (hE : gOK E cc own ret hgt) (hm : cOK E l D G Q nL) (hd : decode cc pc = .ok (.arraylength, 1)) (k : GW E (cW G σ) (pc + 1) L (.int 12 :: st)) : GW E (cW G σ) pc L (.ref (G.1 1104) :: st) := fun H locs ls hP hD hS hl =>
  va_alen hE.1 hE.2.1 hE.2.2.2.2.2.2.2.2.1 hP 57 0 (cA := G.2 0) (x := (12, .inl (σ.2.2.1 1103))) rfl (by rw [hm.2.2.2.1]; rfl) (show Int32.ofNat 12 = 12 by decide) hd (k H locs ls hP hD hS hl)
set_option maxRecDepth 20000 in
theorem cs_to_bytes {i : Int32} {v : Int32} (hE : gOK E cc own ret hgt) (hm : cOK E l D G Q nL) (hd : decode cc pc = .ok (.iastore, 1)) (hi : vp_in i 12) {P : CS → Prop} (h : ∀ σ1 : CS, σ1 = c_to_bytes_s σ i.toNatClampNeg v → P σ1) (k : ∀ σ1 : CS, P σ1 → GW E (cW G σ1) (pc + 1) L st) : GW E (cW G σ) pc L (.int v :: .int i :: .ref (G.1 1104) :: st) := fun H locs ls hP hD hS hl =>
  va_iast hE.1 hE.2.1 hE.2.2.2.2.2.2.2.2.1 hP hD hS 57 0 (cA := G.2 0) (n := 12) rfl (by rw [hm.2.2.2.1]; rfl) hi hd (fun H locs hP hD hS => k _ (h _ rfl) H locs ls hP hD hS hl)
set_option maxRecDepth 20000 in
theorem cg_to_draws (hE : gOK E cc own ret hgt) (hm : cOK E l D G Q nL) (hlk : Cond.fieldLink own idx "FigureTexts$Told" "draws" "I" ∈ gTb) (hd : decode cc pc = .ok (.getfield idx, 3)) (k : GW E (cW G σ) (pc + 3) L (.int (c_to_draws σ) :: st)) : GW E (cW G σ) pc L (.ref (G.1 1100) :: st) := fun H locs ls hP hD hS hl =>
  va_get (D := eD E) (ci := 8) (fs := cF_to G σ) (C := RX9) (T := TX9) (N := 9) hE.1 hE.2.1 hE.2.2.2.2.1 cIn_X9 hE.2.2.2.1 hE.2.2.2.2.2.2.2.2.1 hP 53 rfl (by rw [hm.2.2.1]; rfl) 4 (by decide) (hE.2.2.2.2.1 _ hlk) (fun _ h => h) rfl hd (k H locs ls hP hD hS hl)
set_option maxRecDepth 20000 in
theorem cp_to_draws {v : Int32} (hE : gOK E cc own ret hgt) (hm : cOK E l D G Q nL) (hlk : Cond.fieldLink own idx "FigureTexts$Told" "draws" "I" ∈ gTb) (hd : decode cc pc = .ok (.putfield idx, 3)) {P : CS → Prop} (h : ∀ σ1 : CS, σ1 = c_to_draws_s σ v → P σ1) (k : ∀ σ1 : CS, P σ1 → GW E (cW G σ1) (pc + 3) L st) : GW E (cW G σ) pc L (.int v :: .ref (G.1 1100) :: st) := fun H locs ls hP hD hS hl =>
  va_put (D := eD E) (ci := 8) (fs := cF_to G σ) (v := .int v) (ty := .int) (C := RX9) (T := TX9) (N := 9) hE.1 hE.2.1 hE.2.2.2.2.1 cIn_X9 tyX9 tyX9_ok nmX9 hE.2.2.2.1 hE.2.2.2.2.2.2.2.2.1 hP hD hS 53 rfl (by rw [hm.2.2.1]; rfl) 4 (by decide) (hE.2.2.2.2.1 _ hlk) (fun _ h => h) rfl (by decide +kernel) rfl rfl (Nat.le_of_ble_eq_true rfl) hd (fun H locs hP hD hS => k _ (h _ rfl) H locs ls hP hD hS hl)
set_option maxRecDepth 20000 in
theorem cg_to_states (hE : gOK E cc own ret hgt) (hm : cOK E l D G Q nL) (hlk : Cond.fieldLink own idx "FigureTexts$Told" "states" "I" ∈ gTb) (hd : decode cc pc = .ok (.getfield idx, 3)) (k : GW E (cW G σ) (pc + 3) L (.int (c_to_states σ) :: st)) : GW E (cW G σ) pc L (.ref (G.1 1100) :: st) := fun H locs ls hP hD hS hl =>
  va_get (D := eD E) (ci := 8) (fs := cF_to G σ) (C := RX9) (T := TX9) (N := 9) hE.1 hE.2.1 hE.2.2.2.2.1 cIn_X9 hE.2.2.2.1 hE.2.2.2.2.2.2.2.2.1 hP 53 rfl (by rw [hm.2.2.1]; rfl) 5 (by decide) (hE.2.2.2.2.1 _ hlk) (fun _ h => h) rfl hd (k H locs ls hP hD hS hl)
set_option maxRecDepth 20000 in
theorem cp_to_states {v : Int32} (hE : gOK E cc own ret hgt) (hm : cOK E l D G Q nL) (hlk : Cond.fieldLink own idx "FigureTexts$Told" "states" "I" ∈ gTb) (hd : decode cc pc = .ok (.putfield idx, 3)) {P : CS → Prop} (h : ∀ σ1 : CS, σ1 = c_to_states_s σ v → P σ1) (k : ∀ σ1 : CS, P σ1 → GW E (cW G σ1) (pc + 3) L st) : GW E (cW G σ) pc L (.int v :: .ref (G.1 1100) :: st) := fun H locs ls hP hD hS hl =>
  va_put (D := eD E) (ci := 8) (fs := cF_to G σ) (v := .int v) (ty := .int) (C := RX9) (T := TX9) (N := 9) hE.1 hE.2.1 hE.2.2.2.2.1 cIn_X9 tyX9 tyX9_ok nmX9 hE.2.2.2.1 hE.2.2.2.2.2.2.2.2.1 hP hD hS 53 rfl (by rw [hm.2.2.1]; rfl) 5 (by decide) (hE.2.2.2.2.1 _ hlk) (fun _ h => h) rfl (by decide +kernel) rfl rfl (Nat.le_of_ble_eq_true rfl) hd (fun H locs hP hD hS => k _ (h _ rfl) H locs ls hP hD hS hl)
set_option maxRecDepth 20000 in
theorem cg_to_falls (hE : gOK E cc own ret hgt) (hm : cOK E l D G Q nL) (hlk : Cond.fieldLink own idx "FigureTexts$Told" "falls" "I" ∈ gTb) (hd : decode cc pc = .ok (.getfield idx, 3)) (k : GW E (cW G σ) (pc + 3) L (.int (c_to_falls σ) :: st)) : GW E (cW G σ) pc L (.ref (G.1 1100) :: st) := fun H locs ls hP hD hS hl =>
  va_get (D := eD E) (ci := 8) (fs := cF_to G σ) (C := RX9) (T := TX9) (N := 9) hE.1 hE.2.1 hE.2.2.2.2.1 cIn_X9 hE.2.2.2.1 hE.2.2.2.2.2.2.2.2.1 hP 53 rfl (by rw [hm.2.2.1]; rfl) 6 (by decide) (hE.2.2.2.2.1 _ hlk) (fun _ h => h) rfl hd (k H locs ls hP hD hS hl)
set_option maxRecDepth 20000 in
theorem cp_to_falls {v : Int32} (hE : gOK E cc own ret hgt) (hm : cOK E l D G Q nL) (hlk : Cond.fieldLink own idx "FigureTexts$Told" "falls" "I" ∈ gTb) (hd : decode cc pc = .ok (.putfield idx, 3)) {P : CS → Prop} (h : ∀ σ1 : CS, σ1 = c_to_falls_s σ v → P σ1) (k : ∀ σ1 : CS, P σ1 → GW E (cW G σ1) (pc + 3) L st) : GW E (cW G σ) pc L (.int v :: .ref (G.1 1100) :: st) := fun H locs ls hP hD hS hl =>
  va_put (D := eD E) (ci := 8) (fs := cF_to G σ) (v := .int v) (ty := .int) (C := RX9) (T := TX9) (N := 9) hE.1 hE.2.1 hE.2.2.2.2.1 cIn_X9 tyX9 tyX9_ok nmX9 hE.2.2.2.1 hE.2.2.2.2.2.2.2.2.1 hP hD hS 53 rfl (by rw [hm.2.2.1]; rfl) 6 (by decide) (hE.2.2.2.2.1 _ hlk) (fun _ h => h) rfl (by decide +kernel) rfl rfl (Nat.le_of_ble_eq_true rfl) hd (fun H locs hP hD hS => k _ (h _ rfl) H locs ls hP hD hS hl)
set_option maxRecDepth 20000 in
theorem cg_to_steps (hE : gOK E cc own ret hgt) (hm : cOK E l D G Q nL) (hlk : Cond.fieldLink own idx "FigureTexts$Told" "steps" "I" ∈ gTb) (hd : decode cc pc = .ok (.getfield idx, 3)) (k : GW E (cW G σ) (pc + 3) L (.int (c_to_steps σ) :: st)) : GW E (cW G σ) pc L (.ref (G.1 1100) :: st) := fun H locs ls hP hD hS hl =>
  va_get (D := eD E) (ci := 8) (fs := cF_to G σ) (C := RX9) (T := TX9) (N := 9) hE.1 hE.2.1 hE.2.2.2.2.1 cIn_X9 hE.2.2.2.1 hE.2.2.2.2.2.2.2.2.1 hP 53 rfl (by rw [hm.2.2.1]; rfl) 7 (by decide) (hE.2.2.2.2.1 _ hlk) (fun _ h => h) rfl hd (k H locs ls hP hD hS hl)
set_option maxRecDepth 20000 in
theorem cp_to_steps {v : Int32} (hE : gOK E cc own ret hgt) (hm : cOK E l D G Q nL) (hlk : Cond.fieldLink own idx "FigureTexts$Told" "steps" "I" ∈ gTb) (hd : decode cc pc = .ok (.putfield idx, 3)) {P : CS → Prop} (h : ∀ σ1 : CS, σ1 = c_to_steps_s σ v → P σ1) (k : ∀ σ1 : CS, P σ1 → GW E (cW G σ1) (pc + 3) L st) : GW E (cW G σ) pc L (.int v :: .ref (G.1 1100) :: st) := fun H locs ls hP hD hS hl =>
  va_put (D := eD E) (ci := 8) (fs := cF_to G σ) (v := .int v) (ty := .int) (C := RX9) (T := TX9) (N := 9) hE.1 hE.2.1 hE.2.2.2.2.1 cIn_X9 tyX9 tyX9_ok nmX9 hE.2.2.2.1 hE.2.2.2.2.2.2.2.2.1 hP hD hS 53 rfl (by rw [hm.2.2.1]; rfl) 7 (by decide) (hE.2.2.2.2.1 _ hlk) (fun _ h => h) rfl (by decide +kernel) rfl rfl (Nat.le_of_ble_eq_true rfl) hd (fun H locs hP hD hS => k _ (h _ rfl) H locs ls hP hD hS hl)
set_option maxRecDepth 20000 in
theorem cg_to_spent (hE : gOK E cc own ret hgt) (hm : cOK E l D G Q nL) (hlk : Cond.fieldLink own idx "FigureTexts$Told" "spent" "Z" ∈ gTb) (hd : decode cc pc = .ok (.getfield idx, 3)) (k : GW E (cW G σ) (pc + 3) L (.int (c_to_spent σ) :: st)) : GW E (cW G σ) pc L (.ref (G.1 1100) :: st) := fun H locs ls hP hD hS hl =>
  va_get (D := eD E) (ci := 8) (fs := cF_to G σ) (C := RX9) (T := TX9) (N := 9) hE.1 hE.2.1 hE.2.2.2.2.1 cIn_X9 hE.2.2.2.1 hE.2.2.2.2.2.2.2.2.1 hP 53 rfl (by rw [hm.2.2.1]; rfl) 8 (by decide) (hE.2.2.2.2.1 _ hlk) (fun _ h => h) rfl hd (k H locs ls hP hD hS hl)
set_option maxRecDepth 20000 in
theorem cp_to_spent {v : Int32} (hE : gOK E cc own ret hgt) (hm : cOK E l D G Q nL) (hlk : Cond.fieldLink own idx "FigureTexts$Told" "spent" "Z" ∈ gTb) (hd : decode cc pc = .ok (.putfield idx, 3)) (hb : isB v) {P : CS → Prop} (h : ∀ σ1 : CS, σ1 = c_to_spent_s σ v → P σ1) (k : ∀ σ1 : CS, P σ1 → GW E (cW G σ1) (pc + 3) L st) : GW E (cW G σ) pc L (.int v :: .ref (G.1 1100) :: st) := fun H locs ls hP hD hS hl =>
  va_put (D := eD E) (ci := 8) (fs := cF_to G σ) (v := .int v) (ty := .boolean) (C := RX9) (T := TX9) (N := 9) hE.1 hE.2.1 hE.2.2.2.2.1 cIn_X9 tyX9 tyX9_ok nmX9 hE.2.2.2.1 hE.2.2.2.2.2.2.2.2.1 hP hD hS 53 rfl (by rw [hm.2.2.1]; rfl) 8 (by decide) (hE.2.2.2.2.1 _ hlk) (fun _ h => h) rfl (by decide +kernel) (isB_n hb) (isB_f hb) (Nat.le_of_ble_eq_true rfl) hd (fun H locs hP hD hS => k _ (h _ rfl) H locs ls hP hD hS hl)
set_option maxRecDepth 20000 in
theorem cg_ru_shop (hE : gOK E cc own ret hgt) (hm : cOK E l D G Q nL) (hlk : Cond.fieldLink own idx "FigureTexts$Runner" "shop" "LFigureTexts$Workshop;" ∈ gTb) (hd : decode cc pc = .ok (.getfield idx, 3)) (k : GW E (cW G σ) (pc + 3) L (.ref (G.1 1300) :: st)) : GW E (cW G σ) pc L (.ref (G.1 1200) :: st) := fun H locs ls hP hD hS hl =>
  va_get (D := eD E) (ci := 6) (fs := cF_ru G σ) (C := RX7) (T := TX7) (N := 13) hE.1 hE.2.1 hE.2.2.2.2.1 cIn_X7 hE.2.2.2.1 hE.2.2.2.2.2.2.2.2.1 hP 58 rfl (by rw [hm.2.2.1]; rfl) 0 (by decide) (hE.2.2.2.2.1 _ hlk) (fun _ h => h) rfl hd (k H locs ls hP hD hS hl)
set_option maxRecDepth 20000 in
theorem cg_ru_told (hE : gOK E cc own ret hgt) (hm : cOK E l D G Q nL) (hlk : Cond.fieldLink own idx "FigureTexts$Runner" "told" "LFigureTexts$Told;" ∈ gTb) (hd : decode cc pc = .ok (.getfield idx, 3)) (k : GW E (cW G σ) (pc + 3) L (.ref (G.1 1100) :: st)) : GW E (cW G σ) pc L (.ref (G.1 1200) :: st) := fun H locs ls hP hD hS hl =>
  va_get (D := eD E) (ci := 6) (fs := cF_ru G σ) (C := RX7) (T := TX7) (N := 13) hE.1 hE.2.1 hE.2.2.2.2.1 cIn_X7 hE.2.2.2.1 hE.2.2.2.2.2.2.2.2.1 hP 58 rfl (by rw [hm.2.2.1]; rfl) 1 (by decide) (hE.2.2.2.2.1 _ hlk) (fun _ h => h) rfl hd (k H locs ls hP hD hS hl)
set_option maxRecDepth 20000 in
theorem cg_ru_figure (hE : gOK E cc own ret hgt) (hm : cOK E l D G Q nL) (hlk : Cond.fieldLink own idx "FigureTexts$Runner" "figure" "LFigureTexts$Figure;" ∈ gTb) (hd : decode cc pc = .ok (.getfield idx, 3)) {j : Nat} (hj : c_ru_figure σ = j) (k : GW E (cW G σ) (pc + 3) L (.ref (G.1 j) :: st)) : GW E (cW G σ) pc L (.ref (G.1 1200) :: st) := by subst hj; exact (fun H locs ls hP hD hS hl =>
  va_get (D := eD E) (ci := 6) (fs := cF_ru G σ) (C := RX7) (T := TX7) (N := 13) hE.1 hE.2.1 hE.2.2.2.2.1 cIn_X7 hE.2.2.2.1 hE.2.2.2.2.2.2.2.2.1 hP 58 rfl (by rw [hm.2.2.1]; rfl) 2 (by decide) (hE.2.2.2.2.1 _ hlk) (fun _ h => h) rfl hd (k H locs ls hP hD hS hl))
set_option maxRecDepth 20000 in
theorem cp_ru_figure {v : Nat} (hE : gOK E cc own ret hgt) (hm : cOK E l D G Q nL) (hlk : Cond.fieldLink own idx "FigureTexts$Runner" "figure" "LFigureTexts$Figure;" ∈ gTb) (hd : decode cc pc = .ok (.putfield idx, 3)) {P : CS → Prop} (h : ∀ σ1 : CS, σ1 = c_ru_figure_s σ v → P σ1) (k : ∀ σ1 : CS, P σ1 → GW E (cW G σ1) (pc + 3) L st) : GW E (cW G σ) pc L (.ref (G.1 v) :: .ref (G.1 1200) :: st) := fun H locs ls hP hD hS hl =>
  va_put (D := eD E) (ci := 6) (fs := cF_ru G σ) (v := .ref (G.1 v)) (ty := .object "FigureTexts$Figure") (C := RX7) (T := TX7) (N := 13) hE.1 hE.2.1 hE.2.2.2.2.1 cIn_X7 tyX7 tyX7_ok nmX7 hE.2.2.2.1 hE.2.2.2.2.2.2.2.2.1 hP hD hS 58 rfl (by rw [hm.2.2.1]; rfl) 2 (by decide) (hE.2.2.2.2.1 _ hlk) (fun _ h => h) rfl (by decide +kernel) rfl rfl (Nat.le_of_ble_eq_true rfl) hd (fun H locs hP hD hS => k _ (h _ rfl) H locs ls hP hD hS hl)
set_option maxRecDepth 20000 in
theorem cg_ru_node (hE : gOK E cc own ret hgt) (hm : cOK E l D G Q nL) (hlk : Cond.fieldLink own idx "FigureTexts$Runner" "node" "[I" ∈ gTb) (hd : decode cc pc = .ok (.getfield idx, 3)) (k : GW E (cW G σ) (pc + 3) L (.ref (G.1 1204) :: st)) : GW E (cW G σ) pc L (.ref (G.1 1200) :: st) := fun H locs ls hP hD hS hl =>
  va_get (D := eD E) (ci := 6) (fs := cF_ru G σ) (C := RX7) (T := TX7) (N := 13) hE.1 hE.2.1 hE.2.2.2.2.1 cIn_X7 hE.2.2.2.1 hE.2.2.2.2.2.2.2.2.1 hP 58 rfl (by rw [hm.2.2.1]; rfl) 3 (by decide) (hE.2.2.2.2.1 _ hlk) (fun _ h => h) rfl hd (k H locs ls hP hD hS hl)
set_option maxRecDepth 20000 in
theorem cl_ru_node {i : Int32} (hE : gOK E cc own ret hgt) (hm : cOK E l D G Q nL) (hd : decode cc pc = .ok (.iaload, 1)) (hi : vp_in i 401) (k : GW E (cW G σ) (pc + 1) L (.int (c_ru_node σ i.toNatClampNeg) :: st)) : GW E (cW G σ) pc L (.int i :: .ref (G.1 1204) :: st) := fun H locs ls hP hD hS hl =>
  va_iald hE.1 hE.2.1 hE.2.2.2.2.2.2.2.2.1 hP 59 0 (cA := G.2 0) (n := 401) rfl (by rw [hm.2.2.2.1]; rfl) hi hd (k H locs ls hP hD hS hl)
set_option maxRecDepth 20000 in
theorem cn_ru_node (hE : gOK E cc own ret hgt) (hm : cOK E l D G Q nL) (hd : decode cc pc = .ok (.arraylength, 1)) (k : GW E (cW G σ) (pc + 1) L (.int 401 :: st)) : GW E (cW G σ) pc L (.ref (G.1 1204) :: st) := fun H locs ls hP hD hS hl =>
  va_alen hE.1 hE.2.1 hE.2.2.2.2.2.2.2.2.1 hP 59 0 (cA := G.2 0) (x := (401, .inl (σ.2.2.1 1203))) rfl (by rw [hm.2.2.2.1]; rfl) (show Int32.ofNat 401 = 401 by decide) hd (k H locs ls hP hD hS hl)
set_option maxRecDepth 20000 in
theorem cs_ru_node {i : Int32} {v : Int32} (hE : gOK E cc own ret hgt) (hm : cOK E l D G Q nL) (hd : decode cc pc = .ok (.iastore, 1)) (hi : vp_in i 401) {P : CS → Prop} (h : ∀ σ1 : CS, σ1 = c_ru_node_s σ i.toNatClampNeg v → P σ1) (k : ∀ σ1 : CS, P σ1 → GW E (cW G σ1) (pc + 1) L st) : GW E (cW G σ) pc L (.int v :: .int i :: .ref (G.1 1204) :: st) := fun H locs ls hP hD hS hl =>
  va_iast hE.1 hE.2.1 hE.2.2.2.2.2.2.2.2.1 hP hD hS 59 0 (cA := G.2 0) (n := 401) rfl (by rw [hm.2.2.2.1]; rfl) hi hd (fun H locs hP hD hS => k _ (h _ rfl) H locs ls hP hD hS hl)
set_option maxRecDepth 20000 in
theorem cg_ru_cursor (hE : gOK E cc own ret hgt) (hm : cOK E l D G Q nL) (hlk : Cond.fieldLink own idx "FigureTexts$Runner" "cursor" "[I" ∈ gTb) (hd : decode cc pc = .ok (.getfield idx, 3)) (k : GW E (cW G σ) (pc + 3) L (.ref (G.1 1205) :: st)) : GW E (cW G σ) pc L (.ref (G.1 1200) :: st) := fun H locs ls hP hD hS hl =>
  va_get (D := eD E) (ci := 6) (fs := cF_ru G σ) (C := RX7) (T := TX7) (N := 13) hE.1 hE.2.1 hE.2.2.2.2.1 cIn_X7 hE.2.2.2.1 hE.2.2.2.2.2.2.2.2.1 hP 58 rfl (by rw [hm.2.2.1]; rfl) 4 (by decide) (hE.2.2.2.2.1 _ hlk) (fun _ h => h) rfl hd (k H locs ls hP hD hS hl)
set_option maxRecDepth 20000 in
theorem cl_ru_cursor {i : Int32} (hE : gOK E cc own ret hgt) (hm : cOK E l D G Q nL) (hd : decode cc pc = .ok (.iaload, 1)) (hi : vp_in i 401) (k : GW E (cW G σ) (pc + 1) L (.int (c_ru_cursor σ i.toNatClampNeg) :: st)) : GW E (cW G σ) pc L (.int i :: .ref (G.1 1205) :: st) := fun H locs ls hP hD hS hl =>
  va_iald hE.1 hE.2.1 hE.2.2.2.2.2.2.2.2.1 hP 60 0 (cA := G.2 0) (n := 401) rfl (by rw [hm.2.2.2.1]; rfl) hi hd (k H locs ls hP hD hS hl)
set_option maxRecDepth 20000 in
theorem cn_ru_cursor (hE : gOK E cc own ret hgt) (hm : cOK E l D G Q nL) (hd : decode cc pc = .ok (.arraylength, 1)) (k : GW E (cW G σ) (pc + 1) L (.int 401 :: st)) : GW E (cW G σ) pc L (.ref (G.1 1205) :: st) := fun H locs ls hP hD hS hl =>
  va_alen hE.1 hE.2.1 hE.2.2.2.2.2.2.2.2.1 hP 60 0 (cA := G.2 0) (x := (401, .inl (σ.2.2.1 1204))) rfl (by rw [hm.2.2.2.1]; rfl) (show Int32.ofNat 401 = 401 by decide) hd (k H locs ls hP hD hS hl)
set_option maxRecDepth 20000 in
theorem cs_ru_cursor {i : Int32} {v : Int32} (hE : gOK E cc own ret hgt) (hm : cOK E l D G Q nL) (hd : decode cc pc = .ok (.iastore, 1)) (hi : vp_in i 401) {P : CS → Prop} (h : ∀ σ1 : CS, σ1 = c_ru_cursor_s σ i.toNatClampNeg v → P σ1) (k : ∀ σ1 : CS, P σ1 → GW E (cW G σ1) (pc + 1) L st) : GW E (cW G σ) pc L (.int v :: .int i :: .ref (G.1 1205) :: st) := fun H locs ls hP hD hS hl =>
  va_iast hE.1 hE.2.1 hE.2.2.2.2.2.2.2.2.1 hP hD hS 60 0 (cA := G.2 0) (n := 401) rfl (by rw [hm.2.2.2.1]; rfl) hi hd (fun H locs hP hD hS => k _ (h _ rfl) H locs ls hP hD hS hl)
set_option maxRecDepth 20000 in
theorem cg_ru_floor (hE : gOK E cc own ret hgt) (hm : cOK E l D G Q nL) (hlk : Cond.fieldLink own idx "FigureTexts$Runner" "floor" "[I" ∈ gTb) (hd : decode cc pc = .ok (.getfield idx, 3)) (k : GW E (cW G σ) (pc + 3) L (.ref (G.1 1206) :: st)) : GW E (cW G σ) pc L (.ref (G.1 1200) :: st) := fun H locs ls hP hD hS hl =>
  va_get (D := eD E) (ci := 6) (fs := cF_ru G σ) (C := RX7) (T := TX7) (N := 13) hE.1 hE.2.1 hE.2.2.2.2.1 cIn_X7 hE.2.2.2.1 hE.2.2.2.2.2.2.2.2.1 hP 58 rfl (by rw [hm.2.2.1]; rfl) 5 (by decide) (hE.2.2.2.2.1 _ hlk) (fun _ h => h) rfl hd (k H locs ls hP hD hS hl)
set_option maxRecDepth 20000 in
theorem cl_ru_floor {i : Int32} (hE : gOK E cc own ret hgt) (hm : cOK E l D G Q nL) (hd : decode cc pc = .ok (.iaload, 1)) (hi : vp_in i 401) (k : GW E (cW G σ) (pc + 1) L (.int (c_ru_floor σ i.toNatClampNeg) :: st)) : GW E (cW G σ) pc L (.int i :: .ref (G.1 1206) :: st) := fun H locs ls hP hD hS hl =>
  va_iald hE.1 hE.2.1 hE.2.2.2.2.2.2.2.2.1 hP 61 0 (cA := G.2 0) (n := 401) rfl (by rw [hm.2.2.2.1]; rfl) hi hd (k H locs ls hP hD hS hl)
set_option maxRecDepth 20000 in
theorem cn_ru_floor (hE : gOK E cc own ret hgt) (hm : cOK E l D G Q nL) (hd : decode cc pc = .ok (.arraylength, 1)) (k : GW E (cW G σ) (pc + 1) L (.int 401 :: st)) : GW E (cW G σ) pc L (.ref (G.1 1206) :: st) := fun H locs ls hP hD hS hl =>
  va_alen hE.1 hE.2.1 hE.2.2.2.2.2.2.2.2.1 hP 61 0 (cA := G.2 0) (x := (401, .inl (σ.2.2.1 1205))) rfl (by rw [hm.2.2.2.1]; rfl) (show Int32.ofNat 401 = 401 by decide) hd (k H locs ls hP hD hS hl)
set_option maxRecDepth 20000 in
theorem cs_ru_floor {i : Int32} {v : Int32} (hE : gOK E cc own ret hgt) (hm : cOK E l D G Q nL) (hd : decode cc pc = .ok (.iastore, 1)) (hi : vp_in i 401) {P : CS → Prop} (h : ∀ σ1 : CS, σ1 = c_ru_floor_s σ i.toNatClampNeg v → P σ1) (k : ∀ σ1 : CS, P σ1 → GW E (cW G σ1) (pc + 1) L st) : GW E (cW G σ) pc L (.int v :: .int i :: .ref (G.1 1206) :: st) := fun H locs ls hP hD hS hl =>
  va_iast hE.1 hE.2.1 hE.2.2.2.2.2.2.2.2.1 hP hD hS 61 0 (cA := G.2 0) (n := 401) rfl (by rw [hm.2.2.2.1]; rfl) hi hd (fun H locs hP hD hS => k _ (h _ rfl) H locs ls hP hD hS hl)
set_option maxRecDepth 20000 in
theorem cg_ru_inBlock (hE : gOK E cc own ret hgt) (hm : cOK E l D G Q nL) (hlk : Cond.fieldLink own idx "FigureTexts$Runner" "inBlock" "[Z" ∈ gTb) (hd : decode cc pc = .ok (.getfield idx, 3)) (k : GW E (cW G σ) (pc + 3) L (.ref (G.1 1207) :: st)) : GW E (cW G σ) pc L (.ref (G.1 1200) :: st) := fun H locs ls hP hD hS hl =>
  va_get (D := eD E) (ci := 6) (fs := cF_ru G σ) (C := RX7) (T := TX7) (N := 13) hE.1 hE.2.1 hE.2.2.2.2.1 cIn_X7 hE.2.2.2.1 hE.2.2.2.2.2.2.2.2.1 hP 58 rfl (by rw [hm.2.2.1]; rfl) 6 (by decide) (hE.2.2.2.2.1 _ hlk) (fun _ h => h) rfl hd (k H locs ls hP hD hS hl)
set_option maxRecDepth 20000 in
theorem cl_ru_inBlock {i : Int32} (hE : gOK E cc own ret hgt) (hm : cOK E l D G Q nL) (hd : decode cc pc = .ok (.baload, 1)) (hi : vp_in i 401) (k : GW E (cW G σ) (pc + 1) L (.int (c_ru_inBlock σ i.toNatClampNeg) :: st)) : GW E (cW G σ) pc L (.int i :: .ref (G.1 1207) :: st) := fun H locs ls hP hD hS hl =>
  va_zald hE.1 hE.2.1 hE.2.2.2.2.2.2.2.2.1 hP 62 4 (cA := G.2 4) (n := 401) rfl (by rw [hm.2.2.2.1]; rfl) hi hd (k H locs ls hP hD hS hl)
set_option maxRecDepth 20000 in
theorem cn_ru_inBlock (hE : gOK E cc own ret hgt) (hm : cOK E l D G Q nL) (hd : decode cc pc = .ok (.arraylength, 1)) (k : GW E (cW G σ) (pc + 1) L (.int 401 :: st)) : GW E (cW G σ) pc L (.ref (G.1 1207) :: st) := fun H locs ls hP hD hS hl =>
  va_alen hE.1 hE.2.1 hE.2.2.2.2.2.2.2.2.1 hP 62 4 (cA := G.2 4) (x := (401, .inl (σ.2.2.1 1206))) rfl (by rw [hm.2.2.2.1]; rfl) (show Int32.ofNat 401 = 401 by decide) hd (k H locs ls hP hD hS hl)
set_option maxRecDepth 20000 in
theorem cs_ru_inBlock {i : Int32} {v : Int32} (hE : gOK E cc own ret hgt) (hm : cOK E l D G Q nL) (hd : decode cc pc = .ok (.bastore, 1)) (hi : vp_in i 401) (hb : isB v) {P : CS → Prop} (h : ∀ σ1 : CS, σ1 = c_ru_inBlock_s σ i.toNatClampNeg v → P σ1) (k : ∀ σ1 : CS, P σ1 → GW E (cW G σ1) (pc + 1) L st) : GW E (cW G σ) pc L (.int v :: .int i :: .ref (G.1 1207) :: st) := fun H locs ls hP hD hS hl =>
  va_zast hE.1 hE.2.1 hE.2.2.2.2.2.2.2.2.1 hP hD hS 62 4 (cA := G.2 4) (n := 401) rfl (by rw [hm.2.2.2.1]; rfl) hi hd (fun H locs hP hD hS => k _ (h _ rfl) H locs ls (by rw [isB_v hb] at hP; exact hP) (by rw [isB_v hb] at hD; exact hD) hS hl)
set_option maxRecDepth 20000 in
theorem cg_ru_turns (hE : gOK E cc own ret hgt) (hm : cOK E l D G Q nL) (hlk : Cond.fieldLink own idx "FigureTexts$Runner" "turns" "[I" ∈ gTb) (hd : decode cc pc = .ok (.getfield idx, 3)) (k : GW E (cW G σ) (pc + 3) L (.ref (G.1 1208) :: st)) : GW E (cW G σ) pc L (.ref (G.1 1200) :: st) := fun H locs ls hP hD hS hl =>
  va_get (D := eD E) (ci := 6) (fs := cF_ru G σ) (C := RX7) (T := TX7) (N := 13) hE.1 hE.2.1 hE.2.2.2.2.1 cIn_X7 hE.2.2.2.1 hE.2.2.2.2.2.2.2.2.1 hP 58 rfl (by rw [hm.2.2.1]; rfl) 7 (by decide) (hE.2.2.2.2.1 _ hlk) (fun _ h => h) rfl hd (k H locs ls hP hD hS hl)
set_option maxRecDepth 20000 in
theorem cl_ru_turns {i : Int32} (hE : gOK E cc own ret hgt) (hm : cOK E l D G Q nL) (hd : decode cc pc = .ok (.iaload, 1)) (hi : vp_in i 401) (k : GW E (cW G σ) (pc + 1) L (.int (c_ru_turns σ i.toNatClampNeg) :: st)) : GW E (cW G σ) pc L (.int i :: .ref (G.1 1208) :: st) := fun H locs ls hP hD hS hl =>
  va_iald hE.1 hE.2.1 hE.2.2.2.2.2.2.2.2.1 hP 63 0 (cA := G.2 0) (n := 401) rfl (by rw [hm.2.2.2.1]; rfl) hi hd (k H locs ls hP hD hS hl)
set_option maxRecDepth 20000 in
theorem cn_ru_turns (hE : gOK E cc own ret hgt) (hm : cOK E l D G Q nL) (hd : decode cc pc = .ok (.arraylength, 1)) (k : GW E (cW G σ) (pc + 1) L (.int 401 :: st)) : GW E (cW G σ) pc L (.ref (G.1 1208) :: st) := fun H locs ls hP hD hS hl =>
  va_alen hE.1 hE.2.1 hE.2.2.2.2.2.2.2.2.1 hP 63 0 (cA := G.2 0) (x := (401, .inl (σ.2.2.1 1207))) rfl (by rw [hm.2.2.2.1]; rfl) (show Int32.ofNat 401 = 401 by decide) hd (k H locs ls hP hD hS hl)
set_option maxRecDepth 20000 in
theorem cs_ru_turns {i : Int32} {v : Int32} (hE : gOK E cc own ret hgt) (hm : cOK E l D G Q nL) (hd : decode cc pc = .ok (.iastore, 1)) (hi : vp_in i 401) {P : CS → Prop} (h : ∀ σ1 : CS, σ1 = c_ru_turns_s σ i.toNatClampNeg v → P σ1) (k : ∀ σ1 : CS, P σ1 → GW E (cW G σ1) (pc + 1) L st) : GW E (cW G σ) pc L (.int v :: .int i :: .ref (G.1 1208) :: st) := fun H locs ls hP hD hS hl =>
  va_iast hE.1 hE.2.1 hE.2.2.2.2.2.2.2.2.1 hP hD hS 63 0 (cA := G.2 0) (n := 401) rfl (by rw [hm.2.2.2.1]; rfl) hi hd (fun H locs hP hD hS => k _ (h _ rfl) H locs ls hP hD hS hl)
set_option maxRecDepth 20000 in
theorem cg_ru_top (hE : gOK E cc own ret hgt) (hm : cOK E l D G Q nL) (hlk : Cond.fieldLink own idx "FigureTexts$Runner" "top" "I" ∈ gTb) (hd : decode cc pc = .ok (.getfield idx, 3)) (k : GW E (cW G σ) (pc + 3) L (.int (c_ru_top σ) :: st)) : GW E (cW G σ) pc L (.ref (G.1 1200) :: st) := fun H locs ls hP hD hS hl =>
  va_get (D := eD E) (ci := 6) (fs := cF_ru G σ) (C := RX7) (T := TX7) (N := 13) hE.1 hE.2.1 hE.2.2.2.2.1 cIn_X7 hE.2.2.2.1 hE.2.2.2.2.2.2.2.2.1 hP 58 rfl (by rw [hm.2.2.1]; rfl) 8 (by decide) (hE.2.2.2.2.1 _ hlk) (fun _ h => h) rfl hd (k H locs ls hP hD hS hl)
set_option maxRecDepth 20000 in
theorem cp_ru_top {v : Int32} (hE : gOK E cc own ret hgt) (hm : cOK E l D G Q nL) (hlk : Cond.fieldLink own idx "FigureTexts$Runner" "top" "I" ∈ gTb) (hd : decode cc pc = .ok (.putfield idx, 3)) {P : CS → Prop} (h : ∀ σ1 : CS, σ1 = c_ru_top_s σ v → P σ1) (k : ∀ σ1 : CS, P σ1 → GW E (cW G σ1) (pc + 3) L st) : GW E (cW G σ) pc L (.int v :: .ref (G.1 1200) :: st) := fun H locs ls hP hD hS hl =>
  va_put (D := eD E) (ci := 6) (fs := cF_ru G σ) (v := .int v) (ty := .int) (C := RX7) (T := TX7) (N := 13) hE.1 hE.2.1 hE.2.2.2.2.1 cIn_X7 tyX7 tyX7_ok nmX7 hE.2.2.2.1 hE.2.2.2.2.2.2.2.2.1 hP hD hS 58 rfl (by rw [hm.2.2.1]; rfl) 8 (by decide) (hE.2.2.2.2.1 _ hlk) (fun _ h => h) rfl (by decide +kernel) rfl rfl (Nat.le_of_ble_eq_true rfl) hd (fun H locs hP hD hS => k _ (h _ rfl) H locs ls hP hD hS hl)
set_option maxRecDepth 20000 in
theorem cg_ru_value (hE : gOK E cc own ret hgt) (hm : cOK E l D G Q nL) (hlk : Cond.fieldLink own idx "FigureTexts$Runner" "value" "[I" ∈ gTb) (hd : decode cc pc = .ok (.getfield idx, 3)) (k : GW E (cW G σ) (pc + 3) L (.ref (G.1 1210) :: st)) : GW E (cW G σ) pc L (.ref (G.1 1200) :: st) := fun H locs ls hP hD hS hl =>
  va_get (D := eD E) (ci := 6) (fs := cF_ru G σ) (C := RX7) (T := TX7) (N := 13) hE.1 hE.2.1 hE.2.2.2.2.1 cIn_X7 hE.2.2.2.1 hE.2.2.2.2.2.2.2.2.1 hP 58 rfl (by rw [hm.2.2.1]; rfl) 9 (by decide) (hE.2.2.2.2.1 _ hlk) (fun _ h => h) rfl hd (k H locs ls hP hD hS hl)
set_option maxRecDepth 20000 in
theorem cl_ru_value {i : Int32} (hE : gOK E cc own ret hgt) (hm : cOK E l D G Q nL) (hd : decode cc pc = .ok (.iaload, 1)) (hi : vp_in i 401) (k : GW E (cW G σ) (pc + 1) L (.int (c_ru_value σ i.toNatClampNeg) :: st)) : GW E (cW G σ) pc L (.int i :: .ref (G.1 1210) :: st) := fun H locs ls hP hD hS hl =>
  va_iald hE.1 hE.2.1 hE.2.2.2.2.2.2.2.2.1 hP 64 0 (cA := G.2 0) (n := 401) rfl (by rw [hm.2.2.2.1]; rfl) hi hd (k H locs ls hP hD hS hl)
set_option maxRecDepth 20000 in
theorem cn_ru_value (hE : gOK E cc own ret hgt) (hm : cOK E l D G Q nL) (hd : decode cc pc = .ok (.arraylength, 1)) (k : GW E (cW G σ) (pc + 1) L (.int 401 :: st)) : GW E (cW G σ) pc L (.ref (G.1 1210) :: st) := fun H locs ls hP hD hS hl =>
  va_alen hE.1 hE.2.1 hE.2.2.2.2.2.2.2.2.1 hP 64 0 (cA := G.2 0) (x := (401, .inl (σ.2.2.1 1209))) rfl (by rw [hm.2.2.2.1]; rfl) (show Int32.ofNat 401 = 401 by decide) hd (k H locs ls hP hD hS hl)
set_option maxRecDepth 20000 in
theorem cs_ru_value {i : Int32} {v : Int32} (hE : gOK E cc own ret hgt) (hm : cOK E l D G Q nL) (hd : decode cc pc = .ok (.iastore, 1)) (hi : vp_in i 401) {P : CS → Prop} (h : ∀ σ1 : CS, σ1 = c_ru_value_s σ i.toNatClampNeg v → P σ1) (k : ∀ σ1 : CS, P σ1 → GW E (cW G σ1) (pc + 1) L st) : GW E (cW G σ) pc L (.int v :: .int i :: .ref (G.1 1210) :: st) := fun H locs ls hP hD hS hl =>
  va_iast hE.1 hE.2.1 hE.2.2.2.2.2.2.2.2.1 hP hD hS 64 0 (cA := G.2 0) (n := 401) rfl (by rw [hm.2.2.2.1]; rfl) hi hd (fun H locs hP hD hS => k _ (h _ rfl) H locs ls hP hD hS hl)
set_option maxRecDepth 20000 in
theorem cg_ru_values (hE : gOK E cc own ret hgt) (hm : cOK E l D G Q nL) (hlk : Cond.fieldLink own idx "FigureTexts$Runner" "values" "I" ∈ gTb) (hd : decode cc pc = .ok (.getfield idx, 3)) (k : GW E (cW G σ) (pc + 3) L (.int (c_ru_values σ) :: st)) : GW E (cW G σ) pc L (.ref (G.1 1200) :: st) := fun H locs ls hP hD hS hl =>
  va_get (D := eD E) (ci := 6) (fs := cF_ru G σ) (C := RX7) (T := TX7) (N := 13) hE.1 hE.2.1 hE.2.2.2.2.1 cIn_X7 hE.2.2.2.1 hE.2.2.2.2.2.2.2.2.1 hP 58 rfl (by rw [hm.2.2.1]; rfl) 10 (by decide) (hE.2.2.2.2.1 _ hlk) (fun _ h => h) rfl hd (k H locs ls hP hD hS hl)
set_option maxRecDepth 20000 in
theorem cp_ru_values {v : Int32} (hE : gOK E cc own ret hgt) (hm : cOK E l D G Q nL) (hlk : Cond.fieldLink own idx "FigureTexts$Runner" "values" "I" ∈ gTb) (hd : decode cc pc = .ok (.putfield idx, 3)) {P : CS → Prop} (h : ∀ σ1 : CS, σ1 = c_ru_values_s σ v → P σ1) (k : ∀ σ1 : CS, P σ1 → GW E (cW G σ1) (pc + 3) L st) : GW E (cW G σ) pc L (.int v :: .ref (G.1 1200) :: st) := fun H locs ls hP hD hS hl =>
  va_put (D := eD E) (ci := 6) (fs := cF_ru G σ) (v := .int v) (ty := .int) (C := RX7) (T := TX7) (N := 13) hE.1 hE.2.1 hE.2.2.2.2.1 cIn_X7 tyX7 tyX7_ok nmX7 hE.2.2.2.1 hE.2.2.2.2.2.2.2.2.1 hP hD hS 58 rfl (by rw [hm.2.2.1]; rfl) 10 (by decide) (hE.2.2.2.2.1 _ hlk) (fun _ h => h) rfl (by decide +kernel) rfl rfl (Nat.le_of_ble_eq_true rfl) hd (fun H locs hP hD hS => k _ (h _ rfl) H locs ls hP hD hS hl)
set_option maxRecDepth 20000 in
theorem cg_ru_holds (hE : gOK E cc own ret hgt) (hm : cOK E l D G Q nL) (hlk : Cond.fieldLink own idx "FigureTexts$Runner" "holds" "[I" ∈ gTb) (hd : decode cc pc = .ok (.getfield idx, 3)) (k : GW E (cW G σ) (pc + 3) L (.ref (G.1 1212) :: st)) : GW E (cW G σ) pc L (.ref (G.1 1200) :: st) := fun H locs ls hP hD hS hl =>
  va_get (D := eD E) (ci := 6) (fs := cF_ru G σ) (C := RX7) (T := TX7) (N := 13) hE.1 hE.2.1 hE.2.2.2.2.1 cIn_X7 hE.2.2.2.1 hE.2.2.2.2.2.2.2.2.1 hP 58 rfl (by rw [hm.2.2.1]; rfl) 11 (by decide) (hE.2.2.2.2.1 _ hlk) (fun _ h => h) rfl hd (k H locs ls hP hD hS hl)
set_option maxRecDepth 20000 in
theorem cl_ru_holds {i : Int32} (hE : gOK E cc own ret hgt) (hm : cOK E l D G Q nL) (hd : decode cc pc = .ok (.iaload, 1)) (hi : vp_in i 180) (k : GW E (cW G σ) (pc + 1) L (.int (c_ru_holds σ i.toNatClampNeg) :: st)) : GW E (cW G σ) pc L (.int i :: .ref (G.1 1212) :: st) := fun H locs ls hP hD hS hl =>
  va_iald hE.1 hE.2.1 hE.2.2.2.2.2.2.2.2.1 hP 65 0 (cA := G.2 0) (n := 180) rfl (by rw [hm.2.2.2.1]; rfl) hi hd (k H locs ls hP hD hS hl)
set_option maxRecDepth 20000 in
theorem cn_ru_holds (hE : gOK E cc own ret hgt) (hm : cOK E l D G Q nL) (hd : decode cc pc = .ok (.arraylength, 1)) (k : GW E (cW G σ) (pc + 1) L (.int 180 :: st)) : GW E (cW G σ) pc L (.ref (G.1 1212) :: st) := fun H locs ls hP hD hS hl =>
  va_alen hE.1 hE.2.1 hE.2.2.2.2.2.2.2.2.1 hP 65 0 (cA := G.2 0) (x := (180, .inl (σ.2.2.1 1211))) rfl (by rw [hm.2.2.2.1]; rfl) (show Int32.ofNat 180 = 180 by decide) hd (k H locs ls hP hD hS hl)
set_option maxRecDepth 20000 in
theorem cs_ru_holds {i : Int32} {v : Int32} (hE : gOK E cc own ret hgt) (hm : cOK E l D G Q nL) (hd : decode cc pc = .ok (.iastore, 1)) (hi : vp_in i 180) {P : CS → Prop} (h : ∀ σ1 : CS, σ1 = c_ru_holds_s σ i.toNatClampNeg v → P σ1) (k : ∀ σ1 : CS, P σ1 → GW E (cW G σ1) (pc + 1) L st) : GW E (cW G σ) pc L (.int v :: .int i :: .ref (G.1 1212) :: st) := fun H locs ls hP hD hS hl =>
  va_iast hE.1 hE.2.1 hE.2.2.2.2.2.2.2.2.1 hP hD hS 65 0 (cA := G.2 0) (n := 180) rfl (by rw [hm.2.2.2.1]; rfl) hi hd (fun H locs hP hD hS => k _ (h _ rfl) H locs ls hP hD hS hl)
set_option maxRecDepth 20000 in
theorem cg_ru_frame (hE : gOK E cc own ret hgt) (hm : cOK E l D G Q nL) (hlk : Cond.fieldLink own idx "FigureTexts$Runner" "frame" "I" ∈ gTb) (hd : decode cc pc = .ok (.getfield idx, 3)) (k : GW E (cW G σ) (pc + 3) L (.int (c_ru_frame σ) :: st)) : GW E (cW G σ) pc L (.ref (G.1 1200) :: st) := fun H locs ls hP hD hS hl =>
  va_get (D := eD E) (ci := 6) (fs := cF_ru G σ) (C := RX7) (T := TX7) (N := 13) hE.1 hE.2.1 hE.2.2.2.2.1 cIn_X7 hE.2.2.2.1 hE.2.2.2.2.2.2.2.2.1 hP 58 rfl (by rw [hm.2.2.1]; rfl) 12 (by decide) (hE.2.2.2.2.1 _ hlk) (fun _ h => h) rfl hd (k H locs ls hP hD hS hl)
set_option maxRecDepth 20000 in
theorem cp_ru_frame {v : Int32} (hE : gOK E cc own ret hgt) (hm : cOK E l D G Q nL) (hlk : Cond.fieldLink own idx "FigureTexts$Runner" "frame" "I" ∈ gTb) (hd : decode cc pc = .ok (.putfield idx, 3)) {P : CS → Prop} (h : ∀ σ1 : CS, σ1 = c_ru_frame_s σ v → P σ1) (k : ∀ σ1 : CS, P σ1 → GW E (cW G σ1) (pc + 3) L st) : GW E (cW G σ) pc L (.int v :: .ref (G.1 1200) :: st) := fun H locs ls hP hD hS hl =>
  va_put (D := eD E) (ci := 6) (fs := cF_ru G σ) (v := .int v) (ty := .int) (C := RX7) (T := TX7) (N := 13) hE.1 hE.2.1 hE.2.2.2.2.1 cIn_X7 tyX7 tyX7_ok nmX7 hE.2.2.2.1 hE.2.2.2.2.2.2.2.2.1 hP hD hS 58 rfl (by rw [hm.2.2.1]; rfl) 12 (by decide) (hE.2.2.2.2.1 _ hlk) (fun _ h => h) rfl (by decide +kernel) rfl rfl (Nat.le_of_ble_eq_true rfl) hd (fun H locs hP hD hS => k _ (h _ rfl) H locs ls hP hD hS hl)
set_option maxRecDepth 20000 in
theorem cg_wo_reckoner (hE : gOK E cc own ret hgt) (hm : cOK E l D G Q nL) (hlk : Cond.fieldLink own idx "FigureTexts$Workshop" "reckoner" "LFigureTexts$Reckoner;" ∈ gTb) (hd : decode cc pc = .ok (.getfield idx, 3)) (k : GW E (cW G σ) (pc + 3) L (.ref (G.1 800) :: st)) : GW E (cW G σ) pc L (.ref (G.1 1300) :: st) := fun H locs ls hP hD hS hl =>
  va_get (D := eD E) (ci := 9) (fs := cF_wo G σ) (C := RX11) (T := TX11) (N := 10) hE.1 hE.2.1 hE.2.2.2.2.1 cIn_X11 hE.2.2.2.1 hE.2.2.2.2.2.2.2.2.1 hP 66 rfl (by rw [hm.2.2.1]; rfl) 0 (by decide) (hE.2.2.2.2.1 _ hlk) (fun _ h => h) rfl hd (k H locs ls hP hD hS hl)
set_option maxRecDepth 20000 in
theorem cg_wo_things (hE : gOK E cc own ret hgt) (hm : cOK E l D G Q nL) (hlk : Cond.fieldLink own idx "FigureTexts$Workshop" "things" "LFigureTexts$Things;" ∈ gTb) (hd : decode cc pc = .ok (.getfield idx, 3)) (k : GW E (cW G σ) (pc + 3) L (.ref (G.1 900) :: st)) : GW E (cW G σ) pc L (.ref (G.1 1300) :: st) := fun H locs ls hP hD hS hl =>
  va_get (D := eD E) (ci := 9) (fs := cF_wo G σ) (C := RX11) (T := TX11) (N := 10) hE.1 hE.2.1 hE.2.2.2.2.1 cIn_X11 hE.2.2.2.1 hE.2.2.2.2.2.2.2.2.1 hP 66 rfl (by rw [hm.2.2.1]; rfl) 1 (by decide) (hE.2.2.2.2.1 _ hlk) (fun _ h => h) rfl hd (k H locs ls hP hD hS hl)
set_option maxRecDepth 20000 in
theorem cg_wo_frees (hE : gOK E cc own ret hgt) (hm : cOK E l D G Q nL) (hlk : Cond.fieldLink own idx "FigureTexts$Workshop" "frees" "LFigureTexts$Frees;" ∈ gTb) (hd : decode cc pc = .ok (.getfield idx, 3)) (k : GW E (cW G σ) (pc + 3) L (.ref (G.1 1000) :: st)) : GW E (cW G σ) pc L (.ref (G.1 1300) :: st) := fun H locs ls hP hD hS hl =>
  va_get (D := eD E) (ci := 9) (fs := cF_wo G σ) (C := RX11) (T := TX11) (N := 10) hE.1 hE.2.1 hE.2.2.2.2.1 cIn_X11 hE.2.2.2.1 hE.2.2.2.2.2.2.2.2.1 hP 66 rfl (by rw [hm.2.2.1]; rfl) 2 (by decide) (hE.2.2.2.2.1 _ hlk) (fun _ h => h) rfl hd (k H locs ls hP hD hS hl)
set_option maxRecDepth 20000 in
theorem cg_wo_arguments (hE : gOK E cc own ret hgt) (hm : cOK E l D G Q nL) (hlk : Cond.fieldLink own idx "FigureTexts$Workshop" "arguments" "[I" ∈ gTb) (hd : decode cc pc = .ok (.getfield idx, 3)) (k : GW E (cW G σ) (pc + 3) L (.ref (G.1 1304) :: st)) : GW E (cW G σ) pc L (.ref (G.1 1300) :: st) := fun H locs ls hP hD hS hl =>
  va_get (D := eD E) (ci := 9) (fs := cF_wo G σ) (C := RX11) (T := TX11) (N := 10) hE.1 hE.2.1 hE.2.2.2.2.1 cIn_X11 hE.2.2.2.1 hE.2.2.2.2.2.2.2.2.1 hP 66 rfl (by rw [hm.2.2.1]; rfl) 3 (by decide) (hE.2.2.2.2.1 _ hlk) (fun _ h => h) rfl hd (k H locs ls hP hD hS hl)
set_option maxRecDepth 20000 in
theorem cl_wo_arguments {i : Int32} (hE : gOK E cc own ret hgt) (hm : cOK E l D G Q nL) (hd : decode cc pc = .ok (.iaload, 1)) (hi : vp_in i 3) (k : GW E (cW G σ) (pc + 1) L (.int (c_wo_arguments σ i.toNatClampNeg) :: st)) : GW E (cW G σ) pc L (.int i :: .ref (G.1 1304) :: st) := fun H locs ls hP hD hS hl =>
  va_iald hE.1 hE.2.1 hE.2.2.2.2.2.2.2.2.1 hP 67 0 (cA := G.2 0) (n := 3) rfl (by rw [hm.2.2.2.1]; rfl) hi hd (k H locs ls hP hD hS hl)
set_option maxRecDepth 20000 in
theorem cn_wo_arguments (hE : gOK E cc own ret hgt) (hm : cOK E l D G Q nL) (hd : decode cc pc = .ok (.arraylength, 1)) (k : GW E (cW G σ) (pc + 1) L (.int 3 :: st)) : GW E (cW G σ) pc L (.ref (G.1 1304) :: st) := fun H locs ls hP hD hS hl =>
  va_alen hE.1 hE.2.1 hE.2.2.2.2.2.2.2.2.1 hP 67 0 (cA := G.2 0) (x := (3, .inl (σ.2.2.1 1303))) rfl (by rw [hm.2.2.2.1]; rfl) (show Int32.ofNat 3 = 3 by decide) hd (k H locs ls hP hD hS hl)
set_option maxRecDepth 20000 in
theorem cs_wo_arguments {i : Int32} {v : Int32} (hE : gOK E cc own ret hgt) (hm : cOK E l D G Q nL) (hd : decode cc pc = .ok (.iastore, 1)) (hi : vp_in i 3) {P : CS → Prop} (h : ∀ σ1 : CS, σ1 = c_wo_arguments_s σ i.toNatClampNeg v → P σ1) (k : ∀ σ1 : CS, P σ1 → GW E (cW G σ1) (pc + 1) L st) : GW E (cW G σ) pc L (.int v :: .int i :: .ref (G.1 1304) :: st) := fun H locs ls hP hD hS hl =>
  va_iast hE.1 hE.2.1 hE.2.2.2.2.2.2.2.2.1 hP hD hS 67 0 (cA := G.2 0) (n := 3) rfl (by rw [hm.2.2.2.1]; rfl) hi hd (fun H locs hP hD hS => k _ (h _ rfl) H locs ls hP hD hS hl)
set_option maxRecDepth 20000 in
theorem cg_wo_x (hE : gOK E cc own ret hgt) (hm : cOK E l D G Q nL) (hlk : Cond.fieldLink own idx "FigureTexts$Workshop" "x" "J" ∈ gTb) (hd : decode cc pc = .ok (.getfield idx, 3)) (k : GW E (cW G σ) (pc + 3) L (.long (c_wo_x σ) :: st)) : GW E (cW G σ) pc L (.ref (G.1 1300) :: st) := fun H locs ls hP hD hS hl =>
  va_get (D := eD E) (ci := 9) (fs := cF_wo G σ) (C := RX11) (T := TX11) (N := 10) hE.1 hE.2.1 hE.2.2.2.2.1 cIn_X11 hE.2.2.2.1 hE.2.2.2.2.2.2.2.2.1 hP 66 rfl (by rw [hm.2.2.1]; rfl) 4 (by decide) (hE.2.2.2.2.1 _ hlk) (fun _ h => h) rfl hd (k H locs ls hP hD hS hl)
set_option maxRecDepth 20000 in
theorem cp_wo_x {v : Int64} (hE : gOK E cc own ret hgt) (hm : cOK E l D G Q nL) (hlk : Cond.fieldLink own idx "FigureTexts$Workshop" "x" "J" ∈ gTb) (hd : decode cc pc = .ok (.putfield idx, 3)) {P : CS → Prop} (h : ∀ σ1 : CS, σ1 = c_wo_x_s σ v → P σ1) (k : ∀ σ1 : CS, P σ1 → GW E (cW G σ1) (pc + 3) L st) : GW E (cW G σ) pc L (.long v :: .ref (G.1 1300) :: st) := fun H locs ls hP hD hS hl =>
  va_put (D := eD E) (ci := 9) (fs := cF_wo G σ) (v := .long v) (ty := .long) (C := RX11) (T := TX11) (N := 10) hE.1 hE.2.1 hE.2.2.2.2.1 cIn_X11 tyX11 tyX11_ok nmX11 hE.2.2.2.1 hE.2.2.2.2.2.2.2.2.1 hP hD hS 66 rfl (by rw [hm.2.2.1]; rfl) 4 (by decide) (hE.2.2.2.2.1 _ hlk) (fun _ h => h) rfl (by decide +kernel) rfl rfl (Nat.le_of_ble_eq_true rfl) hd (fun H locs hP hD hS => k _ (h _ rfl) H locs ls hP hD hS hl)
set_option maxRecDepth 20000 in
theorem cg_wo_y (hE : gOK E cc own ret hgt) (hm : cOK E l D G Q nL) (hlk : Cond.fieldLink own idx "FigureTexts$Workshop" "y" "J" ∈ gTb) (hd : decode cc pc = .ok (.getfield idx, 3)) (k : GW E (cW G σ) (pc + 3) L (.long (c_wo_y σ) :: st)) : GW E (cW G σ) pc L (.ref (G.1 1300) :: st) := fun H locs ls hP hD hS hl =>
  va_get (D := eD E) (ci := 9) (fs := cF_wo G σ) (C := RX11) (T := TX11) (N := 10) hE.1 hE.2.1 hE.2.2.2.2.1 cIn_X11 hE.2.2.2.1 hE.2.2.2.2.2.2.2.2.1 hP 66 rfl (by rw [hm.2.2.1]; rfl) 5 (by decide) (hE.2.2.2.2.1 _ hlk) (fun _ h => h) rfl hd (k H locs ls hP hD hS hl)
set_option maxRecDepth 20000 in
theorem cp_wo_y {v : Int64} (hE : gOK E cc own ret hgt) (hm : cOK E l D G Q nL) (hlk : Cond.fieldLink own idx "FigureTexts$Workshop" "y" "J" ∈ gTb) (hd : decode cc pc = .ok (.putfield idx, 3)) {P : CS → Prop} (h : ∀ σ1 : CS, σ1 = c_wo_y_s σ v → P σ1) (k : ∀ σ1 : CS, P σ1 → GW E (cW G σ1) (pc + 3) L st) : GW E (cW G σ) pc L (.long v :: .ref (G.1 1300) :: st) := fun H locs ls hP hD hS hl =>
  va_put (D := eD E) (ci := 9) (fs := cF_wo G σ) (v := .long v) (ty := .long) (C := RX11) (T := TX11) (N := 10) hE.1 hE.2.1 hE.2.2.2.2.1 cIn_X11 tyX11 tyX11_ok nmX11 hE.2.2.2.1 hE.2.2.2.2.2.2.2.2.1 hP hD hS 66 rfl (by rw [hm.2.2.1]; rfl) 5 (by decide) (hE.2.2.2.2.1 _ hlk) (fun _ h => h) rfl (by decide +kernel) rfl rfl (Nat.le_of_ble_eq_true rfl) hd (fun H locs hP hD hS => k _ (h _ rfl) H locs ls hP hD hS hl)
set_option maxRecDepth 20000 in
theorem cg_wo_a (hE : gOK E cc own ret hgt) (hm : cOK E l D G Q nL) (hlk : Cond.fieldLink own idx "FigureTexts$Workshop" "a" "J" ∈ gTb) (hd : decode cc pc = .ok (.getfield idx, 3)) (k : GW E (cW G σ) (pc + 3) L (.long (c_wo_a σ) :: st)) : GW E (cW G σ) pc L (.ref (G.1 1300) :: st) := fun H locs ls hP hD hS hl =>
  va_get (D := eD E) (ci := 9) (fs := cF_wo G σ) (C := RX11) (T := TX11) (N := 10) hE.1 hE.2.1 hE.2.2.2.2.1 cIn_X11 hE.2.2.2.1 hE.2.2.2.2.2.2.2.2.1 hP 66 rfl (by rw [hm.2.2.1]; rfl) 6 (by decide) (hE.2.2.2.2.1 _ hlk) (fun _ h => h) rfl hd (k H locs ls hP hD hS hl)
set_option maxRecDepth 20000 in
theorem cp_wo_a {v : Int64} (hE : gOK E cc own ret hgt) (hm : cOK E l D G Q nL) (hlk : Cond.fieldLink own idx "FigureTexts$Workshop" "a" "J" ∈ gTb) (hd : decode cc pc = .ok (.putfield idx, 3)) {P : CS → Prop} (h : ∀ σ1 : CS, σ1 = c_wo_a_s σ v → P σ1) (k : ∀ σ1 : CS, P σ1 → GW E (cW G σ1) (pc + 3) L st) : GW E (cW G σ) pc L (.long v :: .ref (G.1 1300) :: st) := fun H locs ls hP hD hS hl =>
  va_put (D := eD E) (ci := 9) (fs := cF_wo G σ) (v := .long v) (ty := .long) (C := RX11) (T := TX11) (N := 10) hE.1 hE.2.1 hE.2.2.2.2.1 cIn_X11 tyX11 tyX11_ok nmX11 hE.2.2.2.1 hE.2.2.2.2.2.2.2.2.1 hP hD hS 66 rfl (by rw [hm.2.2.1]; rfl) 6 (by decide) (hE.2.2.2.2.1 _ hlk) (fun _ h => h) rfl (by decide +kernel) rfl rfl (Nat.le_of_ble_eq_true rfl) hd (fun H locs hP hD hS => k _ (h _ rfl) H locs ls hP hD hS hl)
set_option maxRecDepth 20000 in
theorem cg_wo_b (hE : gOK E cc own ret hgt) (hm : cOK E l D G Q nL) (hlk : Cond.fieldLink own idx "FigureTexts$Workshop" "b" "J" ∈ gTb) (hd : decode cc pc = .ok (.getfield idx, 3)) (k : GW E (cW G σ) (pc + 3) L (.long (c_wo_b σ) :: st)) : GW E (cW G σ) pc L (.ref (G.1 1300) :: st) := fun H locs ls hP hD hS hl =>
  va_get (D := eD E) (ci := 9) (fs := cF_wo G σ) (C := RX11) (T := TX11) (N := 10) hE.1 hE.2.1 hE.2.2.2.2.1 cIn_X11 hE.2.2.2.1 hE.2.2.2.2.2.2.2.2.1 hP 66 rfl (by rw [hm.2.2.1]; rfl) 7 (by decide) (hE.2.2.2.2.1 _ hlk) (fun _ h => h) rfl hd (k H locs ls hP hD hS hl)
set_option maxRecDepth 20000 in
theorem cp_wo_b {v : Int64} (hE : gOK E cc own ret hgt) (hm : cOK E l D G Q nL) (hlk : Cond.fieldLink own idx "FigureTexts$Workshop" "b" "J" ∈ gTb) (hd : decode cc pc = .ok (.putfield idx, 3)) {P : CS → Prop} (h : ∀ σ1 : CS, σ1 = c_wo_b_s σ v → P σ1) (k : ∀ σ1 : CS, P σ1 → GW E (cW G σ1) (pc + 3) L st) : GW E (cW G σ) pc L (.long v :: .ref (G.1 1300) :: st) := fun H locs ls hP hD hS hl =>
  va_put (D := eD E) (ci := 9) (fs := cF_wo G σ) (v := .long v) (ty := .long) (C := RX11) (T := TX11) (N := 10) hE.1 hE.2.1 hE.2.2.2.2.1 cIn_X11 tyX11 tyX11_ok nmX11 hE.2.2.2.1 hE.2.2.2.2.2.2.2.2.1 hP hD hS 66 rfl (by rw [hm.2.2.1]; rfl) 7 (by decide) (hE.2.2.2.2.1 _ hlk) (fun _ h => h) rfl (by decide +kernel) rfl rfl (Nat.le_of_ble_eq_true rfl) hd (fun H locs hP hD hS => k _ (h _ rfl) H locs ls hP hD hS hl)
set_option maxRecDepth 20000 in
theorem cg_wo_c (hE : gOK E cc own ret hgt) (hm : cOK E l D G Q nL) (hlk : Cond.fieldLink own idx "FigureTexts$Workshop" "c" "J" ∈ gTb) (hd : decode cc pc = .ok (.getfield idx, 3)) (k : GW E (cW G σ) (pc + 3) L (.long (c_wo_c σ) :: st)) : GW E (cW G σ) pc L (.ref (G.1 1300) :: st) := fun H locs ls hP hD hS hl =>
  va_get (D := eD E) (ci := 9) (fs := cF_wo G σ) (C := RX11) (T := TX11) (N := 10) hE.1 hE.2.1 hE.2.2.2.2.1 cIn_X11 hE.2.2.2.1 hE.2.2.2.2.2.2.2.2.1 hP 66 rfl (by rw [hm.2.2.1]; rfl) 8 (by decide) (hE.2.2.2.2.1 _ hlk) (fun _ h => h) rfl hd (k H locs ls hP hD hS hl)
set_option maxRecDepth 20000 in
theorem cp_wo_c {v : Int64} (hE : gOK E cc own ret hgt) (hm : cOK E l D G Q nL) (hlk : Cond.fieldLink own idx "FigureTexts$Workshop" "c" "J" ∈ gTb) (hd : decode cc pc = .ok (.putfield idx, 3)) {P : CS → Prop} (h : ∀ σ1 : CS, σ1 = c_wo_c_s σ v → P σ1) (k : ∀ σ1 : CS, P σ1 → GW E (cW G σ1) (pc + 3) L st) : GW E (cW G σ) pc L (.long v :: .ref (G.1 1300) :: st) := fun H locs ls hP hD hS hl =>
  va_put (D := eD E) (ci := 9) (fs := cF_wo G σ) (v := .long v) (ty := .long) (C := RX11) (T := TX11) (N := 10) hE.1 hE.2.1 hE.2.2.2.2.1 cIn_X11 tyX11 tyX11_ok nmX11 hE.2.2.2.1 hE.2.2.2.2.2.2.2.2.1 hP hD hS 66 rfl (by rw [hm.2.2.1]; rfl) 8 (by decide) (hE.2.2.2.2.1 _ hlk) (fun _ h => h) rfl (by decide +kernel) rfl rfl (Nat.le_of_ble_eq_true rfl) hd (fun H locs hP hD hS => k _ (h _ rfl) H locs ls hP hD hS hl)
set_option maxRecDepth 20000 in
theorem cg_wo_square (hE : gOK E cc own ret hgt) (hm : cOK E l D G Q nL) (hlk : Cond.fieldLink own idx "FigureTexts$Workshop" "square" "J" ∈ gTb) (hd : decode cc pc = .ok (.getfield idx, 3)) (k : GW E (cW G σ) (pc + 3) L (.long (c_wo_square σ) :: st)) : GW E (cW G σ) pc L (.ref (G.1 1300) :: st) := fun H locs ls hP hD hS hl =>
  va_get (D := eD E) (ci := 9) (fs := cF_wo G σ) (C := RX11) (T := TX11) (N := 10) hE.1 hE.2.1 hE.2.2.2.2.1 cIn_X11 hE.2.2.2.1 hE.2.2.2.2.2.2.2.2.1 hP 66 rfl (by rw [hm.2.2.1]; rfl) 9 (by decide) (hE.2.2.2.2.1 _ hlk) (fun _ h => h) rfl hd (k H locs ls hP hD hS hl)
set_option maxRecDepth 20000 in
theorem cp_wo_square {v : Int64} (hE : gOK E cc own ret hgt) (hm : cOK E l D G Q nL) (hlk : Cond.fieldLink own idx "FigureTexts$Workshop" "square" "J" ∈ gTb) (hd : decode cc pc = .ok (.putfield idx, 3)) {P : CS → Prop} (h : ∀ σ1 : CS, σ1 = c_wo_square_s σ v → P σ1) (k : ∀ σ1 : CS, P σ1 → GW E (cW G σ1) (pc + 3) L st) : GW E (cW G σ) pc L (.long v :: .ref (G.1 1300) :: st) := fun H locs ls hP hD hS hl =>
  va_put (D := eD E) (ci := 9) (fs := cF_wo G σ) (v := .long v) (ty := .long) (C := RX11) (T := TX11) (N := 10) hE.1 hE.2.1 hE.2.2.2.2.1 cIn_X11 tyX11 tyX11_ok nmX11 hE.2.2.2.1 hE.2.2.2.2.2.2.2.2.1 hP hD hS 66 rfl (by rw [hm.2.2.1]; rfl) 9 (by decide) (hE.2.2.2.2.1 _ hlk) (fun _ h => h) rfl (by decide +kernel) rfl rfl (Nat.le_of_ble_eq_true rfl) hd (fun H locs hP hD hS => k _ (h _ rfl) H locs ls hP hD hS hl)
theorem c_z (hE : gOK E cc own ret hgt) (hm : cOK E l D G Q nL) : cZ G (es E) := by have hz := hE.2.2.2.2.2.2.2.2.2.1; rw [hm.2.2.2.2.2.1] at hz; exact hz
theorem c_nret {ty : FieldType} {post : CS → Int32 → Prop} {v : Int32} (hE : gOK E cc own (some ty) hgt) (hm : cOK E l D G (pI post) nL) (hF : gFin E) (hd : decode cc pc = .ok (.ireturn, 1)) (hn : narrow ty (.int v) = .int v) (h : post σ v) : GW E (cW G σ) pc L [.int v] :=
  r_nret hE hF hd hn (by rw [hm.2.2.2.2.2.2.2]; exact ⟨σ, rfl, v, rfl, h⟩)
theorem ks_value {i : Nat} (hE : gOK E cc own ret hgt) (hm : cOK E l D G Q nL) (hi : i < 87) (hlk : Cond.fieldLink own idx "java/lang/String" "value" "[B" ∈ gTb) (hd : decode cc pc = .ok (.getfield idx, 3)) (k : GW E (cW G σ) (pc + 3) L (.ref (G.1 (6000 + i)) :: st)) : GW E (cW G σ) pc L (.ref (G.1 (5000 + i)) :: st) :=
  r_getK hE (by rw [hm.2.2.2.2.1]; exact ((c_z hE hm).2.2.1 i hi).2.2.1) hlk hd k
theorem ks_coder {i : Nat} (hE : gOK E cc own ret hgt) (hm : cOK E l D G Q nL) (hi : i < 87) (hlk : Cond.fieldLink own idx "java/lang/String" "coder" "B" ∈ gTb) (hd : decode cc pc = .ok (.getfield idx, 3)) (k : GW E (cW G σ) (pc + 3) L (.int 0 :: st)) : GW E (cW G σ) pc L (.ref (G.1 (5000 + i)) :: st) :=
  r_getK hE (by rw [hm.2.2.2.2.1]; exact ((c_z hE hm).2.2.1 i hi).2.1) hlk hd k
theorem ks_len {i : Nat} (hE : gOK E cc own ret hgt) (hm : cOK E l D G Q nL) (hi : i < 87) (hd : decode cc pc = .ok (.arraylength, 1)) (k : GW E (cW G σ) (pc + 1) L (.int (nI (sL i)) :: st)) : GW E (cW G σ) pc L (.ref (G.1 (6000 + i)) :: st) :=
  r_tlen hE (by rw [hm.2.2.2.2.1]; exact ((c_z hE hm).2.2.1 i hi).2.2.2) rfl hd k
theorem ks_byte {i : Nat} {j : Int32} (hE : gOK E cc own ret hgt) (hm : cOK E l D G Q nL) (hi : i < 87) (hj : vp_in j (sL i)) (hd : decode cc pc = .ok (.baload, 1)) (k : GW E (cW G σ) (pc + 1) L (.int (sB i j.toNatClampNeg) :: st)) : GW E (cW G σ) pc L (.int j :: .ref (G.1 (6000 + i)) :: st) :=
  r_tb hE (by rw [hm.2.2.2.2.1]; exact ((c_z hE hm).2.2.1 i hi).2.2.2) hj rfl hd k
theorem ks_ldc {tx : String} {i : Nat} (hE : gOK E cc own ret hgt) (hm : cOK E l D G Q nL) (hq : (own, idx, tx, i) ∈ cStr) (hd : decode cc pc = .ok (.ldc idx, 2)) (k : GW E (cW G σ) (pc + 2) L (.ref (G.1 (5000 + i)) :: st)) : GW E (cW G σ) pc L st :=
  r_ldcS hE ((c_z hE hm).2.1 _ hq) hd k
theorem ks_ldcw {tx : String} {i : Nat} (hE : gOK E cc own ret hgt) (hm : cOK E l D G Q nL) (hq : (own, idx, tx, i) ∈ cStr) (hd : decode cc pc = .ok (.ldc_w idx, 3)) (k : GW E (cW G σ) (pc + 3) L (.ref (G.1 (5000 + i)) :: st)) : GW E (cW G σ) pc L st :=
  r_ldcSw hE ((c_z hE hm).2.1 _ hq) hd k
theorem kt_ordinal {t : Nat} (hE : gOK E cc own ret hgt) (hm : cOK E l D G Q nL) (ht : t < 39) (hlk : Cond.fieldLink own idx "java/lang/Enum" "ordinal" "I" ∈ gTb) (hd : decode cc pc = .ok (.getfield idx, 3)) (k : GW E (cW G σ) (pc + 3) L (.int (nI t) :: st)) : GW E (cW G σ) pc L (.ref (G.1 (7000 + t)) :: st) :=
  r_getK hE (by rw [hm.2.2.2.2.1]; exact ((c_z hE hm).2.2.2.1 t ht).2.1) hlk hd k
theorem kt_word {t : Nat} (hE : gOK E cc own ret hgt) (hm : cOK E l D G Q nL) (ht : t < 39) (hlk : Cond.fieldLink own idx "FigureTexts$Tool" "word" "Ljava/lang/String;" ∈ gTb) (hd : decode cc pc = .ok (.getfield idx, 3)) (k : GW E (cW G σ) (pc + 3) L (.ref (G.1 (5000 + tWord.getD t 0)) :: st)) : GW E (cW G σ) pc L (.ref (G.1 (7000 + t)) :: st) :=
  r_getK hE (by rw [hm.2.2.2.2.1]; exact ((c_z hE hm).2.2.2.1 t ht).2.2.1) hlk hd k
theorem kt_wants {t : Nat} (hE : gOK E cc own ret hgt) (hm : cOK E l D G Q nL) (ht : t < 39) (hlk : Cond.fieldLink own idx "FigureTexts$Tool" "wants" "Ljava/lang/String;" ∈ gTb) (hd : decode cc pc = .ok (.getfield idx, 3)) (k : GW E (cW G σ) (pc + 3) L (.ref (G.1 (5000 + tWant.getD t 0)) :: st)) : GW E (cW G σ) pc L (.ref (G.1 (7000 + t)) :: st) :=
  r_getK hE (by rw [hm.2.2.2.2.1]; exact ((c_z hE hm).2.2.2.1 t ht).2.2.2.1) hlk hd k
theorem kt_makes {t : Nat} (hE : gOK E cc own ret hgt) (hm : cOK E l D G Q nL) (ht : t < 39) (hlk : Cond.fieldLink own idx "FigureTexts$Tool" "makes" "I" ∈ gTb) (hd : decode cc pc = .ok (.getfield idx, 3)) (k : GW E (cW G σ) (pc + 3) L (.int (tMake.getD t 0) :: st)) : GW E (cW G σ) pc L (.ref (G.1 (7000 + t)) :: st) :=
  r_getK hE (by rw [hm.2.2.2.2.1]; exact ((c_z hE hm).2.2.2.1 t ht).2.2.2.2) hlk hd k
theorem kz_compact (hE : gOK E cc own ret hgt) (hm : cOK E l D G Q nL) (hlk : Cond.fieldLink own idx "java/lang/String" "COMPACT_STRINGS" "Z" ∈ gTb) (hd : decode cc pc = .ok (.getstatic idx, 3)) (k : GW E (cW G σ) (pc + 3) L (.int 1 :: st)) : GW E (cW G σ) pc L st :=
  r_gets hE (by rw [hm.2.2.2.2.1]; exact (c_z hE hm).2.2.2.2.1) hlk hd k
theorem kz_sioobe (hE : gOK E cc own ret hgt) (hm : cOK E l D G Q nL) (hlk : Cond.fieldLink own idx "jdk/internal/util/Preconditions" "SIOOBE_FORMATTER" "Ljava/util/function/BiFunction;" ∈ gTb) (hd : decode cc pc = .ok (.getstatic idx, 3)) {P : Nat → Prop} {P0 : Prop} (h : (∀ t : Nat, P t) ∧ P0) (k : ∀ t : Nat, P t → GW E (cW G σ) (pc + 3) L (.ref t :: st)) (k0 : P0 → GW E (cW G σ) (pc + 3) L (.null :: st)) : GW E (cW G σ) pc L st := by
  rcases (c_z hE hm).2.2.2.2.2.1 with q | ⟨t, q⟩
  · exact r_gets hE (by rw [hm.2.2.2.2.1]; exact q) hlk hd (k0 h.2)
  · exact r_gets hE (by rw [hm.2.2.2.2.1]; exact q) hlk hd (k t (h.1 t))
theorem kz_tools (hE : gOK E cc own ret hgt) (hm : cOK E l D G Q nL) (hw : Cond.fieldLinkNest own idx "FigureTexts" "TOOLS" "[LFigureTexts$Tool;" "FigureTexts" ∈ cNest) (hd : decode cc pc = .ok (.getstatic idx, 3)) (k : GW E (cW G σ) (pc + 3) L (.ref (G.1 8000) :: st)) : GW E (cW G σ) pc L st :=
  r_getsN hE (by rw [hm.2.2.2.2.1]; exact (c_z hE hm).2.2.2.2.2.2.1) ((c_z hE hm).1.1 _ hw) hd k
theorem kl_tools (hE : gOK E cc own ret hgt) (hm : cOK E l D G Q nL) (hd : decode cc pc = .ok (.arraylength, 1)) (k : GW E (cW G σ) (pc + 1) L (.int 39 :: st)) : GW E (cW G σ) pc L (.ref (G.1 8000) :: st) :=
  r_tlen hE (by rw [hm.2.2.2.2.1]; exact (c_z hE hm).2.2.2.2.2.2.2.1) (by decide) hd k
theorem ka_tools {i : Int32} (hE : gOK E cc own ret hgt) (hm : cOK E l D G Q nL) (hi : vp_in i 39) (hd : decode cc pc = .ok (.aaload, 1)) (k : GW E (cW G σ) (pc + 1) L (.ref (G.1 (7000 + i.toNatClampNeg)) :: st)) : GW E (cW G σ) pc L (.int i :: .ref (G.1 8000) :: st) :=
  r_tq hE (by rw [hm.2.2.2.2.1]; exact (c_z hE hm).2.2.2.2.2.2.2.1) hi rfl hd k
theorem kz_swmap (hE : gOK E cc own ret hgt) (hm : cOK E l D G Q nL) (hlk : Cond.fieldLink own idx "FigureTexts$1" "$SwitchMap$FigureTexts$Tool" "[I" ∈ gTb) (hd : decode cc pc = .ok (.getstatic idx, 3)) (k : GW E (cW G σ) (pc + 3) L (.ref (G.1 8001) :: st)) : GW E (cW G σ) pc L st :=
  r_gets hE (by rw [hm.2.2.2.2.1]; exact (c_z hE hm).2.2.2.2.2.2.2.2.1) hlk hd k
theorem ka_swmap {i : Int32} (hE : gOK E cc own ret hgt) (hm : cOK E l D G Q nL) (hi : vp_in i 39) (hd : decode cc pc = .ok (.iaload, 1)) (k : GW E (cW G σ) (pc + 1) L (.int (swMap.getD i.toNatClampNeg 0) :: st)) : GW E (cW G σ) pc L (.int i :: .ref (G.1 8001) :: st) :=
  r_ti hE (by rw [hm.2.2.2.2.1]; exact (c_z hE hm).2.2.2.2.2.2.2.2.2.1) hi rfl hd k
theorem kz_pok (hE : gOK E cc own ret hgt) (hm : cOK E l D G Q nL) (hw : Cond.fieldLinkNest own idx "FigureTexts" "PARTS_OF_KIND" "[I" "FigureTexts" ∈ cNest) (hd : decode cc pc = .ok (.getstatic idx, 3)) (k : GW E (cW G σ) (pc + 3) L (.ref (G.1 8002) :: st)) : GW E (cW G σ) pc L st :=
  r_getsN hE (by rw [hm.2.2.2.2.1]; exact (c_z hE hm).2.2.2.2.2.2.2.2.2.2.1) ((c_z hE hm).1.1 _ hw) hd k
theorem kl_pok (hE : gOK E cc own ret hgt) (hm : cOK E l D G Q nL) (hd : decode cc pc = .ok (.arraylength, 1)) (k : GW E (cW G σ) (pc + 1) L (.int 7 :: st)) : GW E (cW G σ) pc L (.ref (G.1 8002) :: st) :=
  r_tlen hE (by rw [hm.2.2.2.2.1]; exact (c_z hE hm).2.2.2.2.2.2.2.2.2.2.2.1) (by decide) hd k
theorem ka_pok {i : Int32} (hE : gOK E cc own ret hgt) (hm : cOK E l D G Q nL) (hi : vp_in i 7) (hd : decode cc pc = .ok (.iaload, 1)) (k : GW E (cW G σ) (pc + 1) L (.int (pOfK.getD i.toNatClampNeg 0) :: st)) : GW E (cW G σ) pc L (.int i :: .ref (G.1 8002) :: st) :=
  r_ti hE (by rw [hm.2.2.2.2.1]; exact (c_z hE hm).2.2.2.2.2.2.2.2.2.2.2.1) hi rfl hd k
theorem kz_tool {n : String} {t : Nat} (hE : gOK E cc own ret hgt) (hm : cOK E l D G Q nL) (hq : (n, t) ∈ tUsed) (hlk : Cond.fieldLink own idx "FigureTexts$Tool" n tD ∈ gTb) (hd : decode cc pc = .ok (.getstatic idx, 3)) (k : GW E (cW G σ) (pc + 3) L (.ref (G.1 (7000 + t)) :: st)) : GW E (cW G σ) pc L st :=
  r_gets hE (by rw [hm.2.2.2.2.1]; exact (c_z hE hm).2.2.2.2.2.2.2.2.2.2.2.2 _ hq) hlk hd k
/-- two of the enum's constants are one object only if they are one -/
theorem kt_inj (hE : gOK E cc own ret hgt) (hm : cOK E l D G Q nL) {t u : Nat} (ht : t < 39) (hu : u < 39) (e : G.1 (7000 + t) = G.1 (7000 + u)) : t = u := by
  obtain ⟨cf, k, i, f, cell, h1, h2, h3, h4, h5, h6⟩ := ((c_z hE hm).2.2.2.1 t ht).2.1
  obtain ⟨cf', k', i', f', cell', g1, g2, g3, g4, g5, g6⟩ := ((c_z hE hm).2.2.2.1 u hu).2.1
  rw [h1] at g1
  cases g1
  rw [e, g3] at h3
  cases h3
  rw [h5] at g5
  have := Option.some.inj g5
  injection this with q
  exact (nI_eq (by omega) (by omega)).mp q
theorem kt_acmp {t u : Nat} (hE : gOK E cc own ret hgt) (hm : cOK E l D G Q nL) (ht : t < 39) (hu : u < 39) {off : Int} (tgt : Nat) {P R : Prop} (hd : decode cc pc = .ok (.if_acmp .ne off, 3)) (hx : (pc : Int) + off = (tgt : Int)) (h : (¬ t = u → P) ∧ (t = u → R)) (kt : P → GW E (cW G σ) tgt L st) (kf : R → GW E (cW G σ) (pc + 3) L st) : GW E (cW G σ) pc L (.ref (G.1 (7000 + u)) :: .ref (G.1 (7000 + t)) :: st) :=
  r_acmp_ne hE tgt hd hx ⟨fun q => h.1 (fun e => q (by rw [e])), fun q => h.2 (kt_inj hE hm ht hu q)⟩ kt kf
theorem c_callKv {y : MethodName} {code : ByteArray} {maxL h n b : Nat} {ret' : Option FieldType} {post' : CS → Prop} (hE : gOK E cc own ret hgt) (hm : cOK E l D G Q nL) (As rest : List Value) (hc : gCalV own idx y code maxL ret' n) (hrec : va_O y.cls b (cFree G) (es E) (es E).heap) (hM : cMet l D G y code maxL ret' h (.ref b :: As) σ (pV post')) (hh : h + 1 ≤ hgt) (hn : As.length = n) (hst : st = As.reverse ++ .ref b :: rest) (hW : (rest.map fun v => v.category).sum ≤ 24) (hd : decode cc pc = .ok (.invokevirtual idx, 3)) (k : ∀ (σ' : CS) , post' σ' → GW E (cW G σ') (pc + 3) L rest) : GW E (cW G σ) pc L st :=
  r_callVK hE As rest hc (c_met hm hM) (by rw [hm.2.2.2.2.1]; exact hrec) hh hn hst hW hd (fun ws' rv q => by obtain ⟨σ', rfl, rfl, h⟩ := q; exact k σ' h)
theorem c_callKi {y : MethodName} {code : ByteArray} {maxL h n b : Nat} {ret' : Option FieldType} {post' : CS → Int32 → Prop} (hE : gOK E cc own ret hgt) (hm : cOK E l D G Q nL) (As rest : List Value) (hc : gCalV own idx y code maxL ret' n) (hrec : va_O y.cls b (cFree G) (es E) (es E).heap) (hM : cMet l D G y code maxL ret' h (.ref b :: As) σ (pI post')) (hh : h + 1 ≤ hgt) (hn : As.length = n) (hst : st = As.reverse ++ .ref b :: rest) (hW : (rest.map fun v => v.category).sum ≤ 24) (hd : decode cc pc = .ok (.invokevirtual idx, 3)) (k : ∀ (σ' : CS) (r : Int32) , post' σ' r → GW E (cW G σ') (pc + 3) L (.int r :: rest)) : GW E (cW G σ) pc L st :=
  r_callVK hE As rest hc (c_met hm hM) (by rw [hm.2.2.2.2.1]; exact hrec) hh hn hst hW hd (fun ws' rv q => by obtain ⟨σ', rfl, r, rfl, h⟩ := q; exact k σ' r h)
theorem c_callKl {y : MethodName} {code : ByteArray} {maxL h n b : Nat} {ret' : Option FieldType} {post' : CS → Int64 → Prop} (hE : gOK E cc own ret hgt) (hm : cOK E l D G Q nL) (As rest : List Value) (hc : gCalV own idx y code maxL ret' n) (hrec : va_O y.cls b (cFree G) (es E) (es E).heap) (hM : cMet l D G y code maxL ret' h (.ref b :: As) σ (pL post')) (hh : h + 1 ≤ hgt) (hn : As.length = n) (hst : st = As.reverse ++ .ref b :: rest) (hW : (rest.map fun v => v.category).sum ≤ 24) (hd : decode cc pc = .ok (.invokevirtual idx, 3)) (k : ∀ (σ' : CS) (r : Int64) , post' σ' r → GW E (cW G σ') (pc + 3) L (.long r :: rest)) : GW E (cW G σ) pc L st :=
  r_callVK hE As rest hc (c_met hm hM) (by rw [hm.2.2.2.2.1]; exact hrec) hh hn hst hW hd (fun ws' rv q => by obtain ⟨σ', rfl, r, rfl, h⟩ := q; exact k σ' r h)
theorem c_callU {C : String} {x y : MethodName} {code : ByteArray} {maxL h n b : Nat} {ret' : Option FieldType} {post' : CS → Int32 → Prop} (hE : gOK E cc own ret hgt) (hm : cOK E l D G Q nL) (As rest : List Value) (hc : gCalU own idx C x y code maxL ret' n) (hrec : va_O C b (cFree G) (es E) (es E).heap) (hM : cMet l D G y code maxL ret' h (.ref b :: As) σ (pI post')) (hh : h + 1 ≤ hgt) (hn : As.length = n) (hst : st = As.reverse ++ .ref b :: rest) (hW : (rest.map fun v => v.category).sum ≤ 24) (hd : decode cc pc = .ok (.invokevirtual idx, 3)) (k : ∀ (σ' : CS) (r : Int32), post' σ' r → GW E (cW G σ') (pc + 3) L (.int r :: rest)) : GW E (cW G σ) pc L st :=
  r_callVU hE As rest hc (c_met hm hM) (by rw [hm.2.2.2.2.1]; exact hrec) hh hn hst hW hd (fun ws' rv q => by obtain ⟨σ', rfl, r, rfl, h⟩ := q; exact k σ' r h)
theorem acw : nativeFrameWords "java/lang/System" "arraycopy" 5 ≤ 100 := by decide +kernel
set_option maxRecDepth 20000 in
theorem kcp_ft_sp (hE : gOK E cc own ret hgt) (hm : cOK E l D G Q nL) (hlk : Cond.methodLink own idx arraycopyName ∈ gTb) (hna : Cond.native arraycopyName ∈ gTb) (hst : Cond.static arraycopyName ∈ gTb) (hini : Cond.initialized "java/lang/System" ∈ gTb) (hh : 3 ≤ hgt) (hW : (st.map fun v => v.category).sum ≤ 24) {sp dp n : Int32} (hd : decode cc pc = .ok (.invokestatic idx, 3)) {P : CS → Prop} (h : ¬ sp < 0 ∧ ¬ dp < 0 ∧ ¬ n < 0 ∧ sp.toNatClampNeg + n.toNatClampNeg ≤ 3000 ∧ dp.toNatClampNeg + n.toNatClampNeg ≤ 3000 ∧ (∀ i, i < n.toNatClampNeg → fits .byte (.int (c_ft_tape σ (sp.toNatClampNeg + i))) = true) ∧ ∀ σ1 : CS, σ1 = c_sp_text_w σ (va_cpy (c_ft_tape σ) (c_sp_text σ) sp.toNatClampNeg dp.toNatClampNeg n.toNatClampNeg) → P σ1) (k : ∀ σ1 : CS, P σ1 → GW E (cW G σ1) (pc + 3) L st) : GW E (cW G σ) pc L (.int n :: .int dp :: .ref (G.1 401) :: .int sp :: .ref (G.1 201) :: st) := fun H locs ls hP hD hS hl =>
  va_copyi hE.1 hE.2.1 (hE.2.2.1.trans hl.1.symm) hE.2.2.2.1 (hE.2.2.2.2.1 _ hlk) (hE.2.2.2.2.1 _ hna) (hE.2.2.2.2.1 _ hst) (hE.2.2.2.2.1 _ hini) hE.2.2.2.2.2.2.2.2.1 hP hD hS 1 18 2 2 (c0 := G.2 2) (c1 := G.2 2) (ty := .byte) rfl rfl (by rw [hm.2.2.2.1]; rfl) (by rw [hm.2.2.2.1]; rfl) rfl h.1 h.2.1 h.2.2.1 h.2.2.2.1 h.2.2.2.2.1 h.2.2.2.2.2.1 (by rw [hE.2.2.2.2.2.2.2.1.1]; omega) (by have q := acw; rw [hE.2.2.2.2.2.2.2.1.2]; omega) hd (fun H locs hP hD hS => k _ (h.2.2.2.2.2.2 _ rfl) H locs ls hP hD hS hl)
set_option maxRecDepth 20000 in
theorem kcp_ou_ft (hE : gOK E cc own ret hgt) (hm : cOK E l D G Q nL) (hlk : Cond.methodLink own idx arraycopyName ∈ gTb) (hna : Cond.native arraycopyName ∈ gTb) (hst : Cond.static arraycopyName ∈ gTb) (hini : Cond.initialized "java/lang/System" ∈ gTb) (hh : 3 ≤ hgt) (hW : (st.map fun v => v.category).sum ≤ 24) {sp dp n : Int32} (hd : decode cc pc = .ok (.invokestatic idx, 3)) {P : CS → Prop} (h : ¬ sp < 0 ∧ ¬ dp < 0 ∧ ¬ n < 0 ∧ sp.toNatClampNeg + n.toNatClampNeg ≤ 16000 ∧ dp.toNatClampNeg + n.toNatClampNeg ≤ 3000 ∧ (∀ i, i < n.toNatClampNeg → fits .byte (.int (c_ou_bytes σ (sp.toNatClampNeg + i))) = true) ∧ ∀ σ1 : CS, σ1 = c_ft_tape_w σ (va_cpy (c_ou_bytes σ) (c_ft_tape σ) sp.toNatClampNeg dp.toNatClampNeg n.toNatClampNeg) → P σ1) (k : ∀ σ1 : CS, P σ1 → GW E (cW G σ1) (pc + 3) L st) : GW E (cW G σ) pc L (.int n :: .int dp :: .ref (G.1 201) :: .int sp :: .ref (G.1 501) :: st) := fun H locs ls hP hD hS hl =>
  va_copyi hE.1 hE.2.1 (hE.2.2.1.trans hl.1.symm) hE.2.2.2.1 (hE.2.2.2.2.1 _ hlk) (hE.2.2.2.2.1 _ hna) (hE.2.2.2.2.1 _ hst) (hE.2.2.2.2.1 _ hini) hE.2.2.2.2.2.2.2.2.1 hP hD hS 32 1 2 2 (c0 := G.2 2) (c1 := G.2 2) (ty := .byte) rfl rfl (by rw [hm.2.2.2.1]; rfl) (by rw [hm.2.2.2.1]; rfl) rfl h.1 h.2.1 h.2.2.1 h.2.2.2.1 h.2.2.2.2.1 h.2.2.2.2.2.1 (by rw [hE.2.2.2.2.2.2.2.1.1]; omega) (by have q := acw; rw [hE.2.2.2.2.2.2.2.1.2]; omega) hd (fun H locs hP hD hS => k _ (h.2.2.2.2.2.2 _ rfl) H locs ls hP hD hS hl)
def cQX (G : gAd) (postX : CS → Prop) : va_W → Prop := fun ws' => ∃ σ' : CS, ws' = cW G σ' ∧ postX σ'
def cMetX (l : Launch) (D : va_G) (G : gAd) (y : MethodName) (code : ByteArray) (maxL : Nat) (ret : Option FieldType) (h : Nat) (av : List Value) (σ : CS) (Q : CS → Option Value → Prop) (postX : CS → Prop) : Prop := gMetX l D gCl (gTys G) (cFree G) (cZ G) y code maxL ret h av (cW G σ) (cQ G Q) (cQX G postX)
theorem c_enterX {own : String} {l : Launch} {D : va_G} {G : gAd} {y : MethodName} {code : ByteArray} {maxL : Nat} {ret : Option FieldType} {h : Nat} {av : List Value} {σ : CS} {Q : CS → Option Value → Prop} {postX : CS → Prop}
    (hy : plainName y.cls = true) (hc : y.cls = own) (L0 : List (Nat × Value)) (hL : lv_args 0 av = L0) (hs : (lg_sl av).length ≤ maxL)
    (k : ∀ E : gEnv, gOK E code own ret h → cOK E l D G Q maxL → gFinX E (cQX G postX) → GW E (cW G σ) 0 L0 []) : cMetX l D G y code maxL ret h av σ Q postX :=
  g_enterX (cZ_ok G) hy L0 hL hs (fun E hE h1 h2 h3 h4 h5 h6 h7 h8 hF => k E (by rw [hc] at hE; exact hE) ⟨h1, h2, h3, h4, h5, h6, h7, h8⟩ hF)
theorem cx_iret {post : CS → Int32 → Prop} {postX : CS → Prop} {v : Int32} (hE : gOK E cc own (some .int) hgt) (hm : cOK E l D G (pI post) nL) (hF : gFinX E (cQX G postX)) (hd : decode cc pc = .ok (.ireturn, 1)) (h : post σ v) : GW E (cW G σ) pc L [.int v] :=
  x_iret hE hF hd (by rw [hm.2.2.2.2.2.2.2]; exact ⟨σ, rfl, v, rfl, h⟩)
theorem cx_zret {post : CS → Int32 → Prop} {postX : CS → Prop} {v : Int32} (hE : gOK E cc own (some .boolean) hgt) (hm : cOK E l D G (pI post) nL) (hF : gFinX E (cQX G postX)) (hd : decode cc pc = .ok (.ireturn, 1)) (hb : isB v) (h : post σ v) : GW E (cW G σ) pc L [.int v] :=
  x_zret hE hF hd (isB_n hb) (by rw [hm.2.2.2.2.2.2.2]; exact ⟨σ, rfl, v, rfl, h⟩)
theorem cx_lret {post : CS → Int64 → Prop} {postX : CS → Prop} {v : Int64} (hE : gOK E cc own (some .long) hgt) (hm : cOK E l D G (pL post) nL) (hF : gFinX E (cQX G postX)) (hd : decode cc pc = .ok (.lreturn, 1)) (h : post σ v) : GW E (cW G σ) pc L [.long v] :=
  x_lret hE hF hd (by rw [hm.2.2.2.2.2.2.2]; exact ⟨σ, rfl, v, rfl, h⟩)
theorem xW_in : ∀ w ∈ vx_atS "FigureTexts" 199 ioobe xNames, w ∈ tables_1 := by decide +kernel
theorem xW_good : ∀ w ∈ vx_atS "FigureTexts" 199 ioobe xNames, goodWord w = true ∨ w ∈ xBad := by decide +kernel
theorem xW_ot : ∀ w ∈ Cond.classLink "FigureTexts" 195 ioobe :: Cond.initialized ioobe :: vx_atS "FigureTexts" 199 ioobe xNames, vx_ot w = true := by decide +kernel
theorem cx_throw {postX : CS → Prop} {tx : String} {is i : Nat} (hE : gOK E cc RX12 ret hgt) (hm : cOK E l D G Q nL) (hF : gFinX E (cQX G postX)) (hl0 : l.stackTraces = false) (hq : (RX12, is, tx, i) ∈ cStr) (hh : 6 ≤ hgt) (d0 : decode cc pc = .ok (.new 195, 3)) (d3 : decode cc (pc + 3) = .ok (.dup, 1)) (d4 : decode cc (pc + 4) = .ok (.ldc is, 2)) (d6 : decode cc (pc + 6) = .ok (.invokespecial 199, 3)) (d9 : decode cc (pc + 9) = .ok (.athrow, 1)) (h : postX σ) : GW E (cW G σ) pc L [] :=
  x_throw hE hF (by rw [hm.1]; exact hl0) (gTb_7 (List.mem_of_getElem? (i := 31) rfl) rfl) (gTb_1 (List.mem_of_getElem? (i := 27) rfl) rfl) ((c_z hE hm).2.1 _ hq) (fun w hw => by
    rcases xW_good w hw with g | g
    · exact hE.2.2.2.2.1 _ (gTb_tab (xW_in w hw) g)
    · exact ((c_z hE hm).1.2.1 w g).use (xBad_tab g)) xW_ot (by rw [hm.2.2.2.2.1]; exact (c_z hE hm).1.2.2.1) (by rw [hm.2.2.2.2.1]; exact (c_z hE hm).1.2.2.2) hh d0 d3 d4 d6 d9 ⟨σ, rfl, h⟩
end CROWS
theorem fk_X12_9 : Cond.fieldLink RX12 9 "FigureTexts" "tape" "[B" ∈ gTb := gTb_2 (List.mem_of_getElem? (i := 144) rfl) rfl
theorem fk_X12_13 : Cond.fieldLink RX12 13 "FigureTexts" "tapeLength" "I" ∈ gTb := gTb_2 (List.mem_of_getElem? (i := 145) rfl) rfl
theorem fk_X12_20 : Cond.fieldLink RX12 20 "FigureTexts" "out" "LFigureTexts$Out;" ∈ gTb := gTb_2 (List.mem_of_getElem? (i := 146) rfl) rfl
theorem fk_X12_27 : Cond.fieldLink RX12 27 "FigureTexts" "figure" "LFigureTexts$Figure;" ∈ gTb := gTb_2 (List.mem_of_getElem? (i := 147) rfl) rfl
theorem fk_X12_31 : Cond.fieldLink RX12 31 "FigureTexts" "spare" "LFigureTexts$Figure;" ∈ gTb := gTb_2 (List.mem_of_getElem? (i := 148) rfl) rfl
theorem fk_X12_34 : Cond.fieldLink RX12 34 "FigureTexts" "hasFigure" "Z" ∈ gTb := gTb_2 (List.mem_of_getElem? (i := 149) rfl) rfl
theorem fk_X12_38 : Cond.fieldLink RX12 38 "FigureTexts" "faultPlace" "I" ∈ gTb := gTb_2 (List.mem_of_getElem? (i := 150) rfl) rfl
theorem fk_X12_46 : Cond.fieldLink RX12 46 "FigureTexts" "reader" "LFigureTexts$Reader;" ∈ gTb := gTb_2 (List.mem_of_getElem? (i := 151) rfl) rfl
theorem fk_X12_55 : Cond.fieldLink RX12 55 "FigureTexts" "printer" "LFigureTexts$Printer;" ∈ gTb := gTb_2 (List.mem_of_getElem? (i := 152) rfl) rfl
theorem fk_X12_62 : Cond.fieldLink RX12 62 "FigureTexts" "reckoner" "LFigureTexts$Reckoner;" ∈ gTb := gTb_2 (List.mem_of_getElem? (i := 153) rfl) rfl
theorem fk_X12_69 : Cond.fieldLink RX12 69 "FigureTexts" "things" "LFigureTexts$Things;" ∈ gTb := gTb_2 (List.mem_of_getElem? (i := 154) rfl) rfl
theorem fk_X12_76 : Cond.fieldLink RX12 76 "FigureTexts" "frees" "LFigureTexts$Frees;" ∈ gTb := gTb_2 (List.mem_of_getElem? (i := 155) rfl) rfl
theorem fk_X12_83 : Cond.fieldLink RX12 83 "FigureTexts" "told" "LFigureTexts$Told;" ∈ gTb := gTb_2 (List.mem_of_getElem? (i := 156) rfl) rfl
theorem fk_X12_97 : Cond.fieldLink RX12 97 "FigureTexts" "runner" "LFigureTexts$Runner;" ∈ gTb := gTb_2 (List.mem_of_getElem? (i := 157) rfl) rfl
theorem fk_X12_101 : Cond.fieldLink RX12 101 "FigureTexts" "runs" "I" ∈ gTb := gTb_2 (List.mem_of_getElem? (i := 158) rfl) rfl
theorem fk_X12_104 : Cond.fieldLink RX12 104 "FigureTexts" "sweeping" "[I" ∈ gTb := gTb_2 (List.mem_of_getElem? (i := 159) rfl) rfl
theorem fk_X12_108 : Cond.fieldLink RX12 108 "FigureTexts" "sweepingMany" "I" ∈ gTb := gTb_2 (List.mem_of_getElem? (i := 160) rfl) rfl
set_option maxRecDepth 20000 in
theorem ck_X12_112 : gCalV RX12 112 yX12_layOnTape cX12_layOnTape 3 none 1 := ⟨⟨gTb_2 (List.mem_of_getElem? (i := 201) rfl) rfl, gTb_2 (List.mem_of_getElem? (i := 204) rfl) rfl, gTb_1 (List.mem_of_getElem? (i := 1) rfl) rfl, ⟨by decide +kernel, by decide +kernel⟩, by decide +kernel, by decide⟩, gTb_2 (List.mem_of_getElem? (i := 203) rfl) rfl, gPr_1 (q := (⟨"FigureTexts", "layOnTape", "(I)V"⟩, _)) (List.mem_of_getElem? (i := 0) rfl)⟩
set_option maxRecDepth 20000 in
theorem ck_X12_117 : gCalV RX12 117 yX1_clear cX1_clear 4 none 2 := ⟨⟨gTb_2 (List.mem_of_getElem? (i := 217) rfl) rfl, gTb_2 (List.mem_of_getElem? (i := 220) rfl) rfl, gTb_1 (List.mem_of_getElem? (i := 3) rfl) rfl, ⟨by decide +kernel, by decide +kernel⟩, by decide +kernel, by decide⟩, gTb_2 (List.mem_of_getElem? (i := 218) rfl) rfl, gTb_2 (List.mem_of_getElem? (i := 219) rfl) rfl⟩
set_option maxRecDepth 20000 in
theorem ck_X12_121 : gCalV RX12 121 yX5_take cX5_take 5 (some .int) 1 := ⟨⟨gTb_2 (List.mem_of_getElem? (i := 224) rfl) rfl, gTb_2 (List.mem_of_getElem? (i := 227) rfl) rfl, gTb_1 (List.mem_of_getElem? (i := 4) rfl) rfl, ⟨by decide +kernel, by decide +kernel⟩, by decide +kernel, by decide⟩, gTb_2 (List.mem_of_getElem? (i := 225) rfl) rfl, gTb_2 (List.mem_of_getElem? (i := 226) rfl) rfl⟩
theorem fk_X12_125 : Cond.fieldLink RX12 125 "FigureTexts$Reader" "faultAt" "I" ∈ gTb := gTb_1 (List.mem_of_getElem? (i := 142) rfl) rfl
set_option maxRecDepth 20000 in
theorem ck_X12_128 : gCalV RX12 128 yX9_clear cX9_clear 1 none 0 := ⟨⟨gTb_4 (List.mem_of_getElem? (i := 52) rfl) rfl, gTb_4 (List.mem_of_getElem? (i := 55) rfl) rfl, gTb_1 (List.mem_of_getElem? (i := 9) rfl) rfl, ⟨by decide +kernel, by decide +kernel⟩, by decide +kernel, by decide⟩, gTb_4 (List.mem_of_getElem? (i := 53) rfl) rfl, gTb_4 (List.mem_of_getElem? (i := 54) rfl) rfl⟩
set_option maxRecDepth 20000 in
theorem ck_X12_130 : gCalV RX12 130 yX8_clear cX8_clear 1 none 0 := ⟨⟨gTb_4 (List.mem_of_getElem? (i := 56) rfl) rfl, gTb_4 (List.mem_of_getElem? (i := 59) rfl) rfl, gTb_1 (List.mem_of_getElem? (i := 7) rfl) rfl, ⟨by decide +kernel, by decide +kernel⟩, by decide +kernel, by decide⟩, gTb_4 (List.mem_of_getElem? (i := 57) rfl) rfl, gTb_4 (List.mem_of_getElem? (i := 58) rfl) rfl⟩
set_option maxRecDepth 20000 in
theorem ck_X12_131 : gCalV RX12 131 yX2_clear cX2_clear 2 none 0 := ⟨⟨gTb_4 (List.mem_of_getElem? (i := 60) rfl) rfl, gTb_4 (List.mem_of_getElem? (i := 63) rfl) rfl, gTb_1 (List.mem_of_getElem? (i := 8) rfl) rfl, ⟨by decide +kernel, by decide +kernel⟩, by decide +kernel, by decide⟩, gTb_4 (List.mem_of_getElem? (i := 61) rfl) rfl, gTb_4 (List.mem_of_getElem? (i := 62) rfl) rfl⟩
theorem fk_X12_132 : Cond.fieldLink RX12 132 "FigureTexts$Figure" "nodes" "I" ∈ gTb := gTb_1 (List.mem_of_getElem? (i := 73) rfl) rfl
theorem fk_X12_135 : Cond.fieldLink RX12 135 "FigureTexts$Figure" "macros" "I" ∈ gTb := gTb_1 (List.mem_of_getElem? (i := 87) rfl) rfl
theorem fk_X12_138 : Cond.fieldLink RX12 138 "FigureTexts$Figure" "deeds" "I" ∈ gTb := gTb_1 (List.mem_of_getElem? (i := 75) rfl) rfl
set_option maxRecDepth 20000 in
theorem ck_X12_141 : gCalV RX12 141 yX1_namesIn cX1_namesIn 2 (some .int) 1 := ⟨⟨gTb_4 (List.mem_of_getElem? (i := 72) rfl) rfl, gTb_3 (List.mem_of_getElem? (i := 167) rfl) rfl, gTb_1 (List.mem_of_getElem? (i := 3) rfl) rfl, ⟨by decide +kernel, by decide +kernel⟩, by decide +kernel, by decide⟩, gTb_3 (List.mem_of_getElem? (i := 165) rfl) rfl, gTb_3 (List.mem_of_getElem? (i := 166) rfl) rfl⟩
set_option maxRecDepth 20000 in
theorem ck_X12_145 : gCalS RX12 145 yX12_inside cX12_inside 2 (some .boolean) 2 := ⟨⟨gTb_2 (List.mem_of_getElem? (i := 205) rfl) rfl, gTb_2 (List.mem_of_getElem? (i := 207) rfl) rfl, gTb_1 (List.mem_of_getElem? (i := 1) rfl) rfl, ⟨by decide +kernel, by decide +kernel⟩, by decide +kernel, by decide⟩, gTb_2 (List.mem_of_getElem? (i := 206) rfl) rfl⟩
set_option maxRecDepth 20000 in
theorem ck_X12_149 : gCalV RX12 149 yX6_begin cX6_begin 1 none 0 := ⟨⟨gTb_4 (List.mem_of_getElem? (i := 77) rfl) rfl, gTb_4 (List.mem_of_getElem? (i := 80) rfl) rfl, gTb_1 (List.mem_of_getElem? (i := 6) rfl) rfl, ⟨by decide +kernel, by decide +kernel⟩, by decide +kernel, by decide⟩, gTb_4 (List.mem_of_getElem? (i := 78) rfl) rfl, gTb_4 (List.mem_of_getElem? (i := 79) rfl) rfl⟩
set_option maxRecDepth 20000 in
theorem ck_X12_152 : gCalV RX12 152 yX6_reduced cX6_reduced 13 (some .long) 2 := ⟨⟨gTb_4 (List.mem_of_getElem? (i := 81) rfl) rfl, gTb_4 (List.mem_of_getElem? (i := 84) rfl) rfl, gTb_1 (List.mem_of_getElem? (i := 6) rfl) rfl, ⟨by decide +kernel, by decide +kernel⟩, by decide +kernel, by decide⟩, gTb_4 (List.mem_of_getElem? (i := 82) rfl) rfl, gTb_4 (List.mem_of_getElem? (i := 83) rfl) rfl⟩
theorem fk_X12_156 : Cond.fieldLink RX12 156 "FigureTexts$Reckoner" "failure" "I" ∈ gTb := gTb_1 (List.mem_of_getElem? (i := 196) rfl) rfl
set_option maxRecDepth 20000 in
theorem ck_X12_159 : gCalV RX12 159 yX2_moveTo cX2_moveTo 6 none 3 := ⟨⟨gTb_4 (List.mem_of_getElem? (i := 87) rfl) rfl, gTb_4 (List.mem_of_getElem? (i := 90) rfl) rfl, gTb_1 (List.mem_of_getElem? (i := 8) rfl) rfl, ⟨by decide +kernel, by decide +kernel⟩, by decide +kernel, by decide⟩, gTb_4 (List.mem_of_getElem? (i := 88) rfl) rfl, gTb_4 (List.mem_of_getElem? (i := 89) rfl) rfl⟩
set_option maxRecDepth 20000 in
theorem ck_X12_163 : gCalV RX12 163 yX2_isMoved cX2_isMoved 2 (some .boolean) 1 := ⟨⟨gTb_4 (List.mem_of_getElem? (i := 96) rfl) rfl, gTb_4 (List.mem_of_getElem? (i := 99) rfl) rfl, gTb_1 (List.mem_of_getElem? (i := 8) rfl) rfl, ⟨by decide +kernel, by decide +kernel⟩, by decide +kernel, by decide⟩, gTb_4 (List.mem_of_getElem? (i := 97) rfl) rfl, gTb_4 (List.mem_of_getElem? (i := 98) rfl) rfl⟩
set_option maxRecDepth 20000 in
theorem ck_X12_167 : gCalV RX12 167 yX2_loosen cX2_loosen 2 none 1 := ⟨⟨gTb_4 (List.mem_of_getElem? (i := 100) rfl) rfl, gTb_4 (List.mem_of_getElem? (i := 103) rfl) rfl, gTb_1 (List.mem_of_getElem? (i := 8) rfl) rfl, ⟨by decide +kernel, by decide +kernel⟩, by decide +kernel, by decide⟩, gTb_4 (List.mem_of_getElem? (i := 101) rfl) rfl, gTb_4 (List.mem_of_getElem? (i := 102) rfl) rfl⟩
set_option maxRecDepth 20000 in
theorem ck_X12_171 : gCalV RX12 171 yX7_work cX7_work 4 none 1 := ⟨⟨gTb_4 (List.mem_of_getElem? (i := 109) rfl) rfl, gTb_4 (List.mem_of_getElem? (i := 112) rfl) rfl, gTb_1 (List.mem_of_getElem? (i := 10) rfl) rfl, ⟨by decide +kernel, by decide +kernel⟩, by decide +kernel, by decide⟩, gTb_4 (List.mem_of_getElem? (i := 110) rfl) rfl, gTb_4 (List.mem_of_getElem? (i := 111) rfl) rfl⟩
theorem fk_X12_174 : Cond.fieldLink RX12 174 "FigureTexts$Told" "spent" "Z" ∈ gTb := gTb_2 (List.mem_of_getElem? (i := 38) rfl) rfl
theorem fk_X12_177 : Cond.fieldLink RX12 177 "FigureTexts$Told" "draws" "I" ∈ gTb := gTb_2 (List.mem_of_getElem? (i := 29) rfl) rfl
theorem fk_X12_180 : Cond.fieldLink RX12 180 "FigureTexts$Told" "states" "I" ∈ gTb := gTb_2 (List.mem_of_getElem? (i := 31) rfl) rfl
theorem fk_X12_183 : Cond.fieldLink RX12 183 "FigureTexts$Told" "falls" "I" ∈ gTb := gTb_2 (List.mem_of_getElem? (i := 33) rfl) rfl
theorem fk_X12_186 : Cond.fieldLink RX12 186 "FigureTexts$Frees" "came" "I" ∈ gTb := gTb_2 (List.mem_of_getElem? (i := 0) rfl) rfl
theorem fk_X12_189 : Cond.fieldLink RX12 189 "FigureTexts$Told" "steps" "I" ∈ gTb := gTb_2 (List.mem_of_getElem? (i := 35) rfl) rfl
theorem fk_X12_192 : Cond.fieldLink RX12 192 "FigureTexts$Out" "length" "I" ∈ gTb := gTb_1 (List.mem_of_getElem? (i := 46) rfl) rfl
set_option maxRecDepth 20000 in
theorem ck_X12_202 : gCalV RX12 202 yX9_drawnAt cX9_drawnAt 2 (some .int) 1 := ⟨⟨gTb_7 (List.mem_of_getElem? (i := 96) rfl) rfl, gTb_7 (List.mem_of_getElem? (i := 99) rfl) rfl, gTb_1 (List.mem_of_getElem? (i := 9) rfl) rfl, ⟨by decide +kernel, by decide +kernel⟩, by decide +kernel, by decide⟩, gTb_7 (List.mem_of_getElem? (i := 97) rfl) rfl, gTb_7 (List.mem_of_getElem? (i := 98) rfl) rfl⟩
set_option maxRecDepth 20000 in
theorem ck_X12_205 : gCalV RX12 205 yX8_kindOf cX8_kindOf 2 (some .int) 1 := ⟨⟨gTb_7 (List.mem_of_getElem? (i := 100) rfl) rfl, gTb_5 (List.mem_of_getElem? (i := 2) rfl) rfl, gTb_1 (List.mem_of_getElem? (i := 7) rfl) rfl, ⟨by decide +kernel, by decide +kernel⟩, by decide +kernel, by decide⟩, gTb_5 (List.mem_of_getElem? (i := 0) rfl) rfl, gTb_5 (List.mem_of_getElem? (i := 1) rfl) rfl⟩
set_option maxRecDepth 20000 in
theorem ck_X12_208 : gCalV RX12 208 yX8_partsOf cX8_partsOf 3 (some .int) 1 := ⟨⟨gTb_7 (List.mem_of_getElem? (i := 108) rfl) rfl, gTb_5 (List.mem_of_getElem? (i := 96) rfl) rfl, gTb_1 (List.mem_of_getElem? (i := 7) rfl) rfl, ⟨by decide +kernel, by decide +kernel⟩, by decide +kernel, by decide⟩, gTb_5 (List.mem_of_getElem? (i := 94) rfl) rfl, gTb_5 (List.mem_of_getElem? (i := 95) rfl) rfl⟩
set_option maxRecDepth 20000 in
theorem ck_X12_213 : gCalV RX12 213 yX8_partOf cX8_partOf 4 (some .long) 2 := ⟨⟨gTb_6 (List.mem_of_getElem? (i := 224) rfl) rfl, gTb_5 (List.mem_of_getElem? (i := 6) rfl) rfl, gTb_1 (List.mem_of_getElem? (i := 7) rfl) rfl, ⟨by decide +kernel, by decide +kernel⟩, by decide +kernel, by decide⟩, gTb_5 (List.mem_of_getElem? (i := 4) rfl) rfl, gTb_5 (List.mem_of_getElem? (i := 5) rfl) rfl⟩
set_option maxRecDepth 20000 in
theorem ck_X12_217 : gCalS RX12 217 yX6_top cX6_top 2 (some .long) 1 := ⟨⟨gTb_7 (List.mem_of_getElem? (i := 110) rfl) rfl, gTb_5 (List.mem_of_getElem? (i := 38) rfl) rfl, gTb_1 (List.mem_of_getElem? (i := 6) rfl) rfl, ⟨by decide +kernel, by decide +kernel⟩, by decide +kernel, by decide⟩, gTb_5 (List.mem_of_getElem? (i := 37) rfl) rfl⟩
set_option maxRecDepth 20000 in
theorem ck_X12_221 : gCalS RX12 221 yX6_bottom cX6_bottom 2 (some .long) 1 := ⟨⟨gTb_7 (List.mem_of_getElem? (i := 111) rfl) rfl, gTb_5 (List.mem_of_getElem? (i := 9) rfl) rfl, gTb_1 (List.mem_of_getElem? (i := 6) rfl) rfl, ⟨by decide +kernel, by decide +kernel⟩, by decide +kernel, by decide⟩, gTb_5 (List.mem_of_getElem? (i := 8) rfl) rfl⟩
set_option maxRecDepth 20000 in
theorem ck_X12_224 : gCalV RX12 224 yX8_leaningOf cX8_leaningOf 2 (some .int) 1 := ⟨⟨gTb_7 (List.mem_of_getElem? (i := 119) rfl) rfl, gTb_5 (List.mem_of_getElem? (i := 14) rfl) rfl, gTb_1 (List.mem_of_getElem? (i := 7) rfl) rfl, ⟨by decide +kernel, by decide +kernel⟩, by decide +kernel, by decide⟩, gTb_5 (List.mem_of_getElem? (i := 12) rfl) rfl, gTb_5 (List.mem_of_getElem? (i := 13) rfl) rfl⟩
set_option maxRecDepth 20000 in
theorem ck_X12_229 : gCalV RX12 229 yX9_statedAt cX9_statedAt 2 (some .int) 1 := ⟨⟨gTb_7 (List.mem_of_getElem? (i := 0) rfl) rfl, gTb_7 (List.mem_of_getElem? (i := 3) rfl) rfl, gTb_1 (List.mem_of_getElem? (i := 9) rfl) rfl, ⟨by decide +kernel, by decide +kernel⟩, by decide +kernel, by decide⟩, gTb_7 (List.mem_of_getElem? (i := 1) rfl) rfl, gTb_7 (List.mem_of_getElem? (i := 2) rfl) rfl⟩
set_option maxRecDepth 20000 in
theorem ck_X12_232 : gCalV RX12 232 yX9_fallAt cX9_fallAt 3 (some .int) 2 := ⟨⟨gTb_6 (List.mem_of_getElem? (i := 90) rfl) rfl, gTb_6 (List.mem_of_getElem? (i := 93) rfl) rfl, gTb_1 (List.mem_of_getElem? (i := 9) rfl) rfl, ⟨by decide +kernel, by decide +kernel⟩, by decide +kernel, by decide⟩, gTb_6 (List.mem_of_getElem? (i := 91) rfl) rfl, gTb_6 (List.mem_of_getElem? (i := 92) rfl) rfl⟩
set_option maxRecDepth 20000 in
theorem ck_X12_236 : gCalV RX12 236 yX8_alike cX8_alike 6 (some .boolean) 2 := ⟨⟨gTb_7 (List.mem_of_getElem? (i := 135) rfl) rfl, gTb_5 (List.mem_of_getElem? (i := 91) rfl) rfl, gTb_1 (List.mem_of_getElem? (i := 7) rfl) rfl, ⟨by decide +kernel, by decide +kernel⟩, by decide +kernel, by decide⟩, gTb_5 (List.mem_of_getElem? (i := 89) rfl) rfl, gTb_5 (List.mem_of_getElem? (i := 90) rfl) rfl⟩
set_option maxRecDepth 20000 in
theorem ck_X12_239 : gCalV RX12 239 yX4_putFigure cX4_putFigure 3 none 1 := ⟨⟨gTb_6 (List.mem_of_getElem? (i := 98) rfl) rfl, gTb_6 (List.mem_of_getElem? (i := 101) rfl) rfl, gTb_1 (List.mem_of_getElem? (i := 5) rfl) rfl, ⟨by decide +kernel, by decide +kernel⟩, by decide +kernel, by decide⟩, gTb_6 (List.mem_of_getElem? (i := 99) rfl) rfl, gTb_6 (List.mem_of_getElem? (i := 100) rfl) rfl⟩
set_option maxRecDepth 20000 in
theorem ck_X12_242 : gCalV RX12 242 yX3_clear cX3_clear 1 none 0 := ⟨⟨gTb_7 (List.mem_of_getElem? (i := 143) rfl) rfl, gTb_6 (List.mem_of_getElem? (i := 105) rfl) rfl, gTb_1 (List.mem_of_getElem? (i := 2) rfl) rfl, ⟨by decide +kernel, by decide +kernel⟩, by decide +kernel, by decide⟩, gTb_6 (List.mem_of_getElem? (i := 103) rfl) rfl, gTb_6 (List.mem_of_getElem? (i := 104) rfl) rfl⟩
set_option maxRecDepth 20000 in
theorem ck_X12_243 : gCalV RX12 243 yX3_putFraction cX3_putFraction 3 none 1 := ⟨⟨gTb_7 (List.mem_of_getElem? (i := 144) rfl) rfl, gTb_7 (List.mem_of_getElem? (i := 147) rfl) rfl, gTb_1 (List.mem_of_getElem? (i := 2) rfl) rfl, ⟨by decide +kernel, by decide +kernel⟩, by decide +kernel, by decide⟩, gTb_7 (List.mem_of_getElem? (i := 145) rfl) rfl, gTb_7 (List.mem_of_getElem? (i := 146) rfl) rfl⟩
set_option maxRecDepth 20000 in
theorem ck_X12_247 : gCalV RX12 247 yX12_writeParts cX12_writeParts 6 none 4 := ⟨⟨gTb_7 (List.mem_of_getElem? (i := 151) rfl) rfl, gTb_7 (List.mem_of_getElem? (i := 154) rfl) rfl, gTb_1 (List.mem_of_getElem? (i := 1) rfl) rfl, ⟨by decide +kernel, by decide +kernel⟩, by decide +kernel, by decide⟩, gTb_7 (List.mem_of_getElem? (i := 153) rfl) rfl, gPr_6 (q := (⟨"FigureTexts", "writeParts", "(ICCI)V"⟩, _)) (List.mem_of_getElem? (i := 14) rfl)⟩
set_option maxRecDepth 20000 in
theorem ck_X12_251 : gCalV RX12 251 yX3_put cX3_put 2 none 1 := ⟨⟨gTb_7 (List.mem_of_getElem? (i := 155) rfl) rfl, gTb_6 (List.mem_of_getElem? (i := 120) rfl) rfl, gTb_1 (List.mem_of_getElem? (i := 2) rfl) rfl, ⟨by decide +kernel, by decide +kernel⟩, by decide +kernel, by decide⟩, gTb_6 (List.mem_of_getElem? (i := 118) rfl) rfl, gTb_6 (List.mem_of_getElem? (i := 119) rfl) rfl⟩
set_option maxRecDepth 20000 in
theorem ck_X12_257 : gCalV RX12 257 yX3_byteAt cX3_byteAt 2 (some .int) 1 := ⟨⟨gTb_7 (List.mem_of_getElem? (i := 166) rfl) rfl, gTb_7 (List.mem_of_getElem? (i := 169) rfl) rfl, gTb_1 (List.mem_of_getElem? (i := 2) rfl) rfl, ⟨by decide +kernel, by decide +kernel⟩, by decide +kernel, by decide⟩, gTb_7 (List.mem_of_getElem? (i := 167) rfl) rfl, gTb_7 (List.mem_of_getElem? (i := 168) rfl) rfl⟩
theorem fk_X12_260 : Cond.fieldLink RX12 260 "FigureTexts$Out" "bytes" "[B" ∈ gTb := gTb_1 (List.mem_of_getElem? (i := 43) rfl) rfl
set_option maxRecDepth 20000 in
theorem ck_X12_270 : gCalV RX12 270 yX2_thingAt cX2_thingAt 2 (some .int) 1 := ⟨⟨gTb_6 (List.mem_of_getElem? (i := 220) rfl) rfl, gTb_6 (List.mem_of_getElem? (i := 223) rfl) rfl, gTb_1 (List.mem_of_getElem? (i := 8) rfl) rfl, ⟨by decide +kernel, by decide +kernel⟩, by decide +kernel, by decide⟩, gTb_6 (List.mem_of_getElem? (i := 221) rfl) rfl, gTb_6 (List.mem_of_getElem? (i := 222) rfl) rfl⟩
set_option maxRecDepth 20000 in
theorem ck_X12_273 : gCalV RX12 273 yX12_strays cX12_strays 6 (some .boolean) 3 := ⟨⟨gTb_6 (List.mem_of_getElem? (i := 225) rfl) rfl, gTb_6 (List.mem_of_getElem? (i := 228) rfl) rfl, gTb_1 (List.mem_of_getElem? (i := 1) rfl) rfl, ⟨by decide +kernel, by decide +kernel⟩, by decide +kernel, by decide⟩, gTb_6 (List.mem_of_getElem? (i := 227) rfl) rfl, gPr_6 (q := (⟨"FigureTexts", "strays", "(JII)Z"⟩, _)) (List.mem_of_getElem? (i := 11) rfl)⟩
set_option maxRecDepth 20000 in
theorem ck_X12_277 : gCalV RX12 277 yX2_remember cX2_remember 2 none 0 := ⟨⟨gTb_6 (List.mem_of_getElem? (i := 236) rfl) rfl, gTb_6 (List.mem_of_getElem? (i := 239) rfl) rfl, gTb_1 (List.mem_of_getElem? (i := 8) rfl) rfl, ⟨by decide +kernel, by decide +kernel⟩, by decide +kernel, by decide⟩, gTb_6 (List.mem_of_getElem? (i := 237) rfl) rfl, gTb_6 (List.mem_of_getElem? (i := 238) rfl) rfl⟩
set_option maxRecDepth 20000 in
theorem ck_X12_280 : gCalV RX12 280 yX12_further cX12_further 5 (some .long) 3 := ⟨⟨gTb_6 (List.mem_of_getElem? (i := 229) rfl) rfl, gTb_6 (List.mem_of_getElem? (i := 232) rfl) rfl, gTb_1 (List.mem_of_getElem? (i := 1) rfl) rfl, ⟨by decide +kernel, by decide +kernel⟩, by decide +kernel, by decide⟩, gTb_6 (List.mem_of_getElem? (i := 231) rfl) rfl, gPr_6 (q := (⟨"FigureTexts", "further", "(JII)J"⟩, _)) (List.mem_of_getElem? (i := 12) rfl)⟩
set_option maxRecDepth 20000 in
theorem ck_X12_284 : gCalV RX12 284 yX2_restore cX2_restore 2 none 0 := ⟨⟨gTb_7 (List.mem_of_getElem? (i := 4) rfl) rfl, gTb_7 (List.mem_of_getElem? (i := 7) rfl) rfl, gTb_1 (List.mem_of_getElem? (i := 8) rfl) rfl, ⟨by decide +kernel, by decide +kernel⟩, by decide +kernel, by decide⟩, gTb_7 (List.mem_of_getElem? (i := 5) rfl) rfl, gTb_7 (List.mem_of_getElem? (i := 6) rfl) rfl⟩
set_option maxRecDepth 20000 in
theorem ck_X12_287 : gCalV RX12 287 yX2_scatter cX2_scatter 6 (some .int) 1 := ⟨⟨gTb_7 (List.mem_of_getElem? (i := 16) rfl) rfl, gTb_7 (List.mem_of_getElem? (i := 19) rfl) rfl, gTb_1 (List.mem_of_getElem? (i := 8) rfl) rfl, ⟨by decide +kernel, by decide +kernel⟩, by decide +kernel, by decide⟩, gTb_7 (List.mem_of_getElem? (i := 17) rfl) rfl, gTb_7 (List.mem_of_getElem? (i := 18) rfl) rfl⟩
set_option maxRecDepth 20000 in
theorem ck_X12_292 : gCalV RX12 292 yX3_putText cX3_putText 3 none 1 := ⟨⟨gTb_7 (List.mem_of_getElem? (i := 157) rfl) rfl, gTb_6 (List.mem_of_getElem? (i := 114) rfl) rfl, gTb_1 (List.mem_of_getElem? (i := 2) rfl) rfl, ⟨by decide +kernel, by decide +kernel⟩, by decide +kernel, by decide⟩, gTb_6 (List.mem_of_getElem? (i := 112) rfl) rfl, gTb_6 (List.mem_of_getElem? (i := 113) rfl) rfl⟩
set_option maxRecDepth 20000 in
theorem ck_X12_295 : gCalS RX12 295 yX6_whole cX6_whole 1 (some .long) 1 := ⟨⟨gTb_6 (List.mem_of_getElem? (i := 233) rfl) rfl, gTb_4 (List.mem_of_getElem? (i := 155) rfl) rfl, gTb_1 (List.mem_of_getElem? (i := 6) rfl) rfl, ⟨by decide +kernel, by decide +kernel⟩, by decide +kernel, by decide⟩, gTb_4 (List.mem_of_getElem? (i := 154) rfl) rfl⟩
set_option maxRecDepth 20000 in
theorem ck_X12_299 : gCalV RX12 299 yX6_times cX6_times 5 (some .long) 2 := ⟨⟨gTb_6 (List.mem_of_getElem? (i := 234) rfl) rfl, gTb_5 (List.mem_of_getElem? (i := 66) rfl) rfl, gTb_1 (List.mem_of_getElem? (i := 6) rfl) rfl, ⟨by decide +kernel, by decide +kernel⟩, by decide +kernel, by decide⟩, gTb_5 (List.mem_of_getElem? (i := 64) rfl) rfl, gTb_5 (List.mem_of_getElem? (i := 65) rfl) rfl⟩
set_option maxRecDepth 20000 in
theorem ck_X12_302 : gCalV RX12 302 yX6_plus cX6_plus 5 (some .long) 2 := ⟨⟨gTb_6 (List.mem_of_getElem? (i := 235) rfl) rfl, gTb_5 (List.mem_of_getElem? (i := 70) rfl) rfl, gTb_1 (List.mem_of_getElem? (i := 6) rfl) rfl, ⟨by decide +kernel, by decide +kernel⟩, by decide +kernel, by decide⟩, gTb_5 (List.mem_of_getElem? (i := 68) rfl) rfl, gTb_5 (List.mem_of_getElem? (i := 69) rfl) rfl⟩
theorem fk_X1_9 : Cond.fieldLink RX1 9 "FigureTexts$Figure" "text" "[B" ∈ gTb := gTb_1 (List.mem_of_getElem? (i := 62) rfl) rfl
theorem fk_X1_15 : Cond.fieldLink RX1 15 "FigureTexts$Figure" "length" "I" ∈ gTb := gTb_1 (List.mem_of_getElem? (i := 63) rfl) rfl
theorem fk_X1_19 : Cond.fieldLink RX1 19 "FigureTexts$Figure" "type" "[I" ∈ gTb := gTb_1 (List.mem_of_getElem? (i := 65) rfl) rfl
theorem fk_X1_23 : Cond.fieldLink RX1 23 "FigureTexts$Figure" "at" "[I" ∈ gTb := gTb_1 (List.mem_of_getElem? (i := 66) rfl) rfl
theorem fk_X1_26 : Cond.fieldLink RX1 26 "FigureTexts$Figure" "data" "[I" ∈ gTb := gTb_1 (List.mem_of_getElem? (i := 67) rfl) rfl
theorem fk_X1_29 : Cond.fieldLink RX1 29 "FigureTexts$Figure" "first" "[I" ∈ gTb := gTb_1 (List.mem_of_getElem? (i := 68) rfl) rfl
theorem fk_X1_32 : Cond.fieldLink RX1 32 "FigureTexts$Figure" "next" "[I" ∈ gTb := gTb_1 (List.mem_of_getElem? (i := 69) rfl) rfl
theorem fk_X1_35 : Cond.fieldLink RX1 35 "FigureTexts$Figure" "body" "[I" ∈ gTb := gTb_1 (List.mem_of_getElem? (i := 70) rfl) rfl
theorem fk_X1_38 : Cond.fieldLink RX1 38 "FigureTexts$Figure" "other" "[I" ∈ gTb := gTb_1 (List.mem_of_getElem? (i := 71) rfl) rfl
theorem fk_X1_41 : Cond.fieldLink RX1 41 "FigureTexts$Figure" "nodes" "I" ∈ gTb := gTb_1 (List.mem_of_getElem? (i := 72) rfl) rfl
theorem fk_X1_44 : Cond.fieldLink RX1 44 "FigureTexts$Figure" "deeds" "I" ∈ gTb := gTb_1 (List.mem_of_getElem? (i := 74) rfl) rfl
theorem fk_X1_47 : Cond.fieldLink RX1 47 "FigureTexts$Figure" "firstDeed" "I" ∈ gTb := gTb_1 (List.mem_of_getElem? (i := 76) rfl) rfl
theorem fk_X1_50 : Cond.fieldLink RX1 50 "FigureTexts$Figure" "nameAt" "[I" ∈ gTb := gTb_1 (List.mem_of_getElem? (i := 80) rfl) rfl
theorem fk_X1_53 : Cond.fieldLink RX1 53 "FigureTexts$Figure" "names" "[I" ∈ gTb := gTb_1 (List.mem_of_getElem? (i := 81) rfl) rfl
theorem fk_X1_56 : Cond.fieldLink RX1 56 "FigureTexts$Figure" "params" "[I" ∈ gTb := gTb_1 (List.mem_of_getElem? (i := 82) rfl) rfl
theorem fk_X1_59 : Cond.fieldLink RX1 59 "FigureTexts$Figure" "macroAt" "[I" ∈ gTb := gTb_1 (List.mem_of_getElem? (i := 83) rfl) rfl
theorem fk_X1_62 : Cond.fieldLink RX1 62 "FigureTexts$Figure" "macroBody" "[I" ∈ gTb := gTb_1 (List.mem_of_getElem? (i := 84) rfl) rfl
theorem fk_X1_65 : Cond.fieldLink RX1 65 "FigureTexts$Figure" "macros" "I" ∈ gTb := gTb_1 (List.mem_of_getElem? (i := 85) rfl) rfl
set_option maxRecDepth 20000 in
theorem ck_X1_74 : gCalN RX1 74 yX12_inside cX12_inside 2 (some .boolean) 2 "FigureTexts" := ⟨⟨gTb_2 (List.mem_of_getElem? (i := 207) rfl) rfl, gTb_1 (List.mem_of_getElem? (i := 1) rfl) rfl, ⟨by decide +kernel, by decide +kernel⟩, by decide +kernel, by decide⟩, gTb_2 (List.mem_of_getElem? (i := 206) rfl) rfl⟩
theorem cw_X1_74 : Cond.methodLinkNest RX1 74 yX12_inside "FigureTexts" ∈ cNest := List.mem_of_getElem? (i := 7) rfl
set_option maxRecDepth 20000 in
theorem ck_X1_78 : gCalV RX1 78 yX1_namesIn cX1_namesIn 2 (some .int) 1 := ⟨⟨gTb_3 (List.mem_of_getElem? (i := 173) rfl) rfl, gTb_3 (List.mem_of_getElem? (i := 167) rfl) rfl, gTb_1 (List.mem_of_getElem? (i := 3) rfl) rfl, ⟨by decide +kernel, by decide +kernel⟩, by decide +kernel, by decide⟩, gTb_3 (List.mem_of_getElem? (i := 165) rfl) rfl, gTb_3 (List.mem_of_getElem? (i := 166) rfl) rfl⟩
set_option maxRecDepth 20000 in
theorem ck_X1_82 : gCalV RX1 82 yX1_sameWord cX1_sameWord 5 (some .boolean) 2 := ⟨⟨gTb_3 (List.mem_of_getElem? (i := 144) rfl) rfl, gTb_3 (List.mem_of_getElem? (i := 147) rfl) rfl, gTb_1 (List.mem_of_getElem? (i := 3) rfl) rfl, ⟨by decide +kernel, by decide +kernel⟩, by decide +kernel, by decide⟩, gTb_3 (List.mem_of_getElem? (i := 145) rfl) rfl, gTb_3 (List.mem_of_getElem? (i := 146) rfl) rfl⟩
set_option maxRecDepth 20000 in
theorem ck_X1_85 : gCalV RX1 85 yX1_letterAt cX1_letterAt 3 (some .int) 1 := ⟨⟨gTb_3 (List.mem_of_getElem? (i := 89) rfl) rfl, gTb_3 (List.mem_of_getElem? (i := 92) rfl) rfl, gTb_1 (List.mem_of_getElem? (i := 3) rfl) rfl, ⟨by decide +kernel, by decide +kernel⟩, by decide +kernel, by decide⟩, gTb_3 (List.mem_of_getElem? (i := 90) rfl) rfl, gTb_3 (List.mem_of_getElem? (i := 91) rfl) rfl⟩
theorem fk_X2_9 : Cond.fieldLink RX2 9 "FigureTexts$Frees" "moved" "[Z" ∈ gTb := gTb_1 (List.mem_of_getElem? (i := 230) rfl) rfl
theorem fk_X2_15 : Cond.fieldLink RX2 15 "FigureTexts$Frees" "toX" "[J" ∈ gTb := gTb_1 (List.mem_of_getElem? (i := 231) rfl) rfl
theorem fk_X2_19 : Cond.fieldLink RX2 19 "FigureTexts$Frees" "toY" "[J" ∈ gTb := gTb_1 (List.mem_of_getElem? (i := 232) rfl) rfl
theorem fk_X2_22 : Cond.fieldLink RX2 22 "FigureTexts$Frees" "wasMoved" "[Z" ∈ gTb := gTb_1 (List.mem_of_getElem? (i := 233) rfl) rfl
theorem fk_X2_25 : Cond.fieldLink RX2 25 "FigureTexts$Frees" "wasX" "[J" ∈ gTb := gTb_1 (List.mem_of_getElem? (i := 234) rfl) rfl
theorem fk_X2_28 : Cond.fieldLink RX2 28 "FigureTexts$Frees" "wasY" "[J" ∈ gTb := gTb_1 (List.mem_of_getElem? (i := 235) rfl) rfl
theorem fk_X2_31 : Cond.fieldLink RX2 31 "FigureTexts$Frees" "thing" "[I" ∈ gTb := gTb_1 (List.mem_of_getElem? (i := 236) rfl) rfl
theorem fk_X2_35 : Cond.fieldLink RX2 35 "FigureTexts$Frees" "came" "I" ∈ gTb := gTb_1 (List.mem_of_getElem? (i := 237) rfl) rfl
set_option maxRecDepth 20000 in
theorem ck_X2_39 : gCalN RX2 39 yX12_inside cX12_inside 2 (some .boolean) 2 "FigureTexts" := ⟨⟨gTb_2 (List.mem_of_getElem? (i := 207) rfl) rfl, gTb_1 (List.mem_of_getElem? (i := 1) rfl) rfl, ⟨by decide +kernel, by decide +kernel⟩, by decide +kernel, by decide⟩, gTb_2 (List.mem_of_getElem? (i := 206) rfl) rfl⟩
theorem cw_X2_39 : Cond.methodLinkNest RX2 39 yX12_inside "FigureTexts" ∈ cNest := List.mem_of_getElem? (i := 9) rfl
set_option maxRecDepth 20000 in
theorem ck_X2_46 : gCalS RX2 46 yX6_whole cX6_whole 1 (some .long) 1 := ⟨⟨gTb_7 (List.mem_of_getElem? (i := 21) rfl) rfl, gTb_4 (List.mem_of_getElem? (i := 155) rfl) rfl, gTb_1 (List.mem_of_getElem? (i := 6) rfl) rfl, ⟨by decide +kernel, by decide +kernel⟩, by decide +kernel, by decide⟩, gTb_4 (List.mem_of_getElem? (i := 154) rfl) rfl⟩
set_option maxRecDepth 20000 in
theorem ck_X2_50 : gCalV RX2 50 yX2_moveTo cX2_moveTo 6 none 3 := ⟨⟨gTb_7 (List.mem_of_getElem? (i := 22) rfl) rfl, gTb_4 (List.mem_of_getElem? (i := 90) rfl) rfl, gTb_1 (List.mem_of_getElem? (i := 8) rfl) rfl, ⟨by decide +kernel, by decide +kernel⟩, by decide +kernel, by decide⟩, gTb_4 (List.mem_of_getElem? (i := 88) rfl) rfl, gTb_4 (List.mem_of_getElem? (i := 89) rfl) rfl⟩
theorem fk_X3_9 : Cond.fieldLink RX3 9 "FigureTexts$Out" "bytes" "[B" ∈ gTb := gTb_1 (List.mem_of_getElem? (i := 42) rfl) rfl
theorem fk_X3_15 : Cond.fieldLink RX3 15 "FigureTexts$Out" "digits" "[C" ∈ gTb := gTb_1 (List.mem_of_getElem? (i := 44) rfl) rfl
theorem fk_X3_19 : Cond.fieldLink RX3 19 "FigureTexts$Out" "length" "I" ∈ gTb := gTb_1 (List.mem_of_getElem? (i := 45) rfl) rfl
set_option maxRecDepth 20000 in
theorem ck_X3_23 : gCalN RX3 23 yX12_inside cX12_inside 2 (some .boolean) 2 "FigureTexts" := ⟨⟨gTb_2 (List.mem_of_getElem? (i := 207) rfl) rfl, gTb_1 (List.mem_of_getElem? (i := 1) rfl) rfl, ⟨by decide +kernel, by decide +kernel⟩, by decide +kernel, by decide⟩, gTb_2 (List.mem_of_getElem? (i := 206) rfl) rfl⟩
theorem cw_X3_23 : Cond.methodLinkNest RX3 23 yX12_inside "FigureTexts" ∈ cNest := List.mem_of_getElem? (i := 17) rfl
set_option maxRecDepth 20000 in
theorem ck_X3_36 : gCalV RX3 36 yX3_put cX3_put 2 none 1 := ⟨⟨gTb_6 (List.mem_of_getElem? (i := 117) rfl) rfl, gTb_6 (List.mem_of_getElem? (i := 120) rfl) rfl, gTb_1 (List.mem_of_getElem? (i := 2) rfl) rfl, ⟨by decide +kernel, by decide +kernel⟩, by decide +kernel, by decide⟩, gTb_6 (List.mem_of_getElem? (i := 118) rfl) rfl, gTb_6 (List.mem_of_getElem? (i := 119) rfl) rfl⟩
set_option maxRecDepth 20000 in
theorem ck_X3_40 : gCalS RX3 40 yX6_top cX6_top 2 (some .long) 1 := ⟨⟨gTb_7 (List.mem_of_getElem? (i := 148) rfl) rfl, gTb_5 (List.mem_of_getElem? (i := 38) rfl) rfl, gTb_1 (List.mem_of_getElem? (i := 6) rfl) rfl, ⟨by decide +kernel, by decide +kernel⟩, by decide +kernel, by decide⟩, gTb_5 (List.mem_of_getElem? (i := 37) rfl) rfl⟩
set_option maxRecDepth 20000 in
theorem ck_X3_46 : gCalV RX3 46 yX3_putWhole cX3_putWhole 7 none 1 := ⟨⟨gTb_7 (List.mem_of_getElem? (i := 149) rfl) rfl, gTb_6 (List.mem_of_getElem? (i := 177) rfl) rfl, gTb_1 (List.mem_of_getElem? (i := 2) rfl) rfl, ⟨by decide +kernel, by decide +kernel⟩, by decide +kernel, by decide⟩, gTb_6 (List.mem_of_getElem? (i := 175) rfl) rfl, gTb_6 (List.mem_of_getElem? (i := 176) rfl) rfl⟩
set_option maxRecDepth 20000 in
theorem ck_X3_50 : gCalS RX3 50 yX6_bottom cX6_bottom 2 (some .long) 1 := ⟨⟨gTb_7 (List.mem_of_getElem? (i := 150) rfl) rfl, gTb_5 (List.mem_of_getElem? (i := 9) rfl) rfl, gTb_1 (List.mem_of_getElem? (i := 6) rfl) rfl, ⟨by decide +kernel, by decide +kernel⟩, by decide +kernel, by decide⟩, gTb_5 (List.mem_of_getElem? (i := 8) rfl) rfl⟩
theorem fk_X4_9 : Cond.fieldLink RX4 9 "FigureTexts$Printer" "node" "[I" ∈ gTb := gTb_1 (List.mem_of_getElem? (i := 170) rfl) rfl
theorem fk_X4_15 : Cond.fieldLink RX4 15 "FigureTexts$Printer" "cursor" "[I" ∈ gTb := gTb_1 (List.mem_of_getElem? (i := 171) rfl) rfl
theorem fk_X4_18 : Cond.fieldLink RX4 18 "FigureTexts$Printer" "wrapped" "[Z" ∈ gTb := gTb_1 (List.mem_of_getElem? (i := 172) rfl) rfl
theorem fk_X4_22 : Cond.fieldLink RX4 22 "FigureTexts$Printer" "top" "I" ∈ gTb := gTb_1 (List.mem_of_getElem? (i := 173) rfl) rfl
theorem fk_X4_26 : Cond.fieldLink RX4 26 "FigureTexts$Printer" "figure" "LFigureTexts$Figure;" ∈ gTb := gTb_1 (List.mem_of_getElem? (i := 169) rfl) rfl
theorem fk_X4_30 : Cond.fieldLink RX4 30 "FigureTexts$Printer" "out" "LFigureTexts$Out;" ∈ gTb := gTb_1 (List.mem_of_getElem? (i := 168) rfl) rfl
set_option maxRecDepth 20000 in
theorem ck_X4_34 : gCalV RX4 34 yX3_clear cX3_clear 1 none 0 := ⟨⟨gTb_6 (List.mem_of_getElem? (i := 102) rfl) rfl, gTb_6 (List.mem_of_getElem? (i := 105) rfl) rfl, gTb_1 (List.mem_of_getElem? (i := 2) rfl) rfl, ⟨by decide +kernel, by decide +kernel⟩, by decide +kernel, by decide⟩, gTb_6 (List.mem_of_getElem? (i := 103) rfl) rfl, gTb_6 (List.mem_of_getElem? (i := 104) rfl) rfl⟩
theorem fk_X4_39 : Cond.fieldLink RX4 39 "FigureTexts$Figure" "macros" "I" ∈ gTb := gTb_1 (List.mem_of_getElem? (i := 86) rfl) rfl
set_option maxRecDepth 20000 in
theorem ck_X4_44 : gCalV RX4 44 yX4_putHeader cX4_putHeader 3 none 1 := ⟨⟨gTb_6 (List.mem_of_getElem? (i := 106) rfl) rfl, gTb_6 (List.mem_of_getElem? (i := 109) rfl) rfl, gTb_1 (List.mem_of_getElem? (i := 5) rfl) rfl, ⟨by decide +kernel, by decide +kernel⟩, by decide +kernel, by decide⟩, gTb_6 (List.mem_of_getElem? (i := 108) rfl) rfl, gPr_5 (q := (⟨"FigureTexts$Printer", "putHeader", "(I)V"⟩, _)) (List.mem_of_getElem? (i := 14) rfl)⟩
set_option maxRecDepth 20000 in
theorem ck_X4_48 : gCalV RX4 48 yX1_macroBodyOf cX1_macroBodyOf 2 (some .int) 1 := ⟨⟨gTb_6 (List.mem_of_getElem? (i := 138) rfl) rfl, gTb_6 (List.mem_of_getElem? (i := 41) rfl) rfl, gTb_1 (List.mem_of_getElem? (i := 3) rfl) rfl, ⟨by decide +kernel, by decide +kernel⟩, by decide +kernel, by decide⟩, gTb_6 (List.mem_of_getElem? (i := 39) rfl) rfl, gTb_6 (List.mem_of_getElem? (i := 40) rfl) rfl⟩
set_option maxRecDepth 20000 in
theorem ck_X4_52 : gCalV RX4 52 yX4_putDeeds cX4_putDeeds 5 none 2 := ⟨⟨gTb_6 (List.mem_of_getElem? (i := 139) rfl) rfl, gTb_6 (List.mem_of_getElem? (i := 142) rfl) rfl, gTb_1 (List.mem_of_getElem? (i := 5) rfl) rfl, ⟨by decide +kernel, by decide +kernel⟩, by decide +kernel, by decide⟩, gTb_6 (List.mem_of_getElem? (i := 141) rfl) rfl, gPr_6 (q := (⟨"FigureTexts$Printer", "putDeeds", "(II)V"⟩, _)) (List.mem_of_getElem? (i := 0) rfl)⟩
set_option maxRecDepth 20000 in
theorem ck_X4_58 : gCalV RX4 58 yX3_putText cX3_putText 3 none 1 := ⟨⟨gTb_6 (List.mem_of_getElem? (i := 111) rfl) rfl, gTb_6 (List.mem_of_getElem? (i := 114) rfl) rfl, gTb_1 (List.mem_of_getElem? (i := 2) rfl) rfl, ⟨by decide +kernel, by decide +kernel⟩, by decide +kernel, by decide⟩, gTb_6 (List.mem_of_getElem? (i := 112) rfl) rfl, gTb_6 (List.mem_of_getElem? (i := 113) rfl) rfl⟩
theorem fk_X4_62 : Cond.fieldLink RX4 62 "FigureTexts$Figure" "firstDeed" "I" ∈ gTb := gTb_1 (List.mem_of_getElem? (i := 77) rfl) rfl
set_option maxRecDepth 20000 in
theorem ck_X4_67 : gCalV RX4 67 yX1_macroAtOf cX1_macroAtOf 2 (some .int) 1 := ⟨⟨gTb_6 (List.mem_of_getElem? (i := 121) rfl) rfl, gTb_6 (List.mem_of_getElem? (i := 124) rfl) rfl, gTb_1 (List.mem_of_getElem? (i := 3) rfl) rfl, ⟨by decide +kernel, by decide +kernel⟩, by decide +kernel, by decide⟩, gTb_6 (List.mem_of_getElem? (i := 122) rfl) rfl, gTb_6 (List.mem_of_getElem? (i := 123) rfl) rfl⟩
set_option maxRecDepth 20000 in
theorem ck_X4_70 : gCalV RX4 70 yX4_putWord cX4_putWord 3 none 1 := ⟨⟨gTb_6 (List.mem_of_getElem? (i := 125) rfl) rfl, gTb_6 (List.mem_of_getElem? (i := 128) rfl) rfl, gTb_1 (List.mem_of_getElem? (i := 5) rfl) rfl, ⟨by decide +kernel, by decide +kernel⟩, by decide +kernel, by decide⟩, gTb_6 (List.mem_of_getElem? (i := 127) rfl) rfl, gPr_5 (q := (⟨"FigureTexts$Printer", "putWord", "(I)V"⟩, _)) (List.mem_of_getElem? (i := 15) rfl)⟩
set_option maxRecDepth 20000 in
theorem ck_X4_73 : gCalV RX4 73 yX3_put cX3_put 2 none 1 := ⟨⟨gTb_6 (List.mem_of_getElem? (i := 130) rfl) rfl, gTb_6 (List.mem_of_getElem? (i := 120) rfl) rfl, gTb_1 (List.mem_of_getElem? (i := 2) rfl) rfl, ⟨by decide +kernel, by decide +kernel⟩, by decide +kernel, by decide⟩, gTb_6 (List.mem_of_getElem? (i := 118) rfl) rfl, gTb_6 (List.mem_of_getElem? (i := 119) rfl) rfl⟩
set_option maxRecDepth 20000 in
theorem ck_X4_77 : gCalV RX4 77 yX1_paramsOf cX1_paramsOf 2 (some .int) 1 := ⟨⟨gTb_6 (List.mem_of_getElem? (i := 131) rfl) rfl, gTb_4 (List.mem_of_getElem? (i := 17) rfl) rfl, gTb_1 (List.mem_of_getElem? (i := 3) rfl) rfl, ⟨by decide +kernel, by decide +kernel⟩, by decide +kernel, by decide⟩, gTb_4 (List.mem_of_getElem? (i := 15) rfl) rfl, gTb_4 (List.mem_of_getElem? (i := 16) rfl) rfl⟩
set_option maxRecDepth 20000 in
theorem ck_X4_82 : gCalV RX4 82 yX1_paramAt cX1_paramAt 3 (some .int) 2 := ⟨⟨gTb_6 (List.mem_of_getElem? (i := 133) rfl) rfl, gTb_6 (List.mem_of_getElem? (i := 136) rfl) rfl, gTb_1 (List.mem_of_getElem? (i := 3) rfl) rfl, ⟨by decide +kernel, by decide +kernel⟩, by decide +kernel, by decide⟩, gTb_6 (List.mem_of_getElem? (i := 134) rfl) rfl, gTb_6 (List.mem_of_getElem? (i := 135) rfl) rfl⟩
set_option maxRecDepth 20000 in
theorem ck_X4_88 : gCalV RX4 88 yX1_letterAt cX1_letterAt 3 (some .int) 1 := ⟨⟨gTb_6 (List.mem_of_getElem? (i := 129) rfl) rfl, gTb_3 (List.mem_of_getElem? (i := 92) rfl) rfl, gTb_1 (List.mem_of_getElem? (i := 3) rfl) rfl, ⟨by decide +kernel, by decide +kernel⟩, by decide +kernel, by decide⟩, gTb_3 (List.mem_of_getElem? (i := 90) rfl) rfl, gTb_3 (List.mem_of_getElem? (i := 91) rfl) rfl⟩
set_option maxRecDepth 20000 in
theorem ck_X4_93 : gCalV RX4 93 yX4_putBlanks cX4_putBlanks 3 none 1 := ⟨⟨gTb_6 (List.mem_of_getElem? (i := 143) rfl) rfl, gTb_6 (List.mem_of_getElem? (i := 146) rfl) rfl, gTb_1 (List.mem_of_getElem? (i := 5) rfl) rfl, ⟨by decide +kernel, by decide +kernel⟩, by decide +kernel, by decide⟩, gTb_6 (List.mem_of_getElem? (i := 145) rfl) rfl, gPr_6 (q := (⟨"FigureTexts$Printer", "putBlanks", "(I)V"⟩, _)) (List.mem_of_getElem? (i := 1) rfl)⟩
set_option maxRecDepth 20000 in
theorem ck_X4_96 : gCalV RX4 96 yX4_putDeed cX4_putDeed 3 none 2 := ⟨⟨gTb_6 (List.mem_of_getElem? (i := 148) rfl) rfl, gTb_6 (List.mem_of_getElem? (i := 151) rfl) rfl, gTb_1 (List.mem_of_getElem? (i := 5) rfl) rfl, ⟨by decide +kernel, by decide +kernel⟩, by decide +kernel, by decide⟩, gTb_6 (List.mem_of_getElem? (i := 150) rfl) rfl, gPr_6 (q := (⟨"FigureTexts$Printer", "putDeed", "(II)V"⟩, _)) (List.mem_of_getElem? (i := 2) rfl)⟩
set_option maxRecDepth 20000 in
theorem ck_X4_99 : gCalV RX4 99 yX1_nextOf cX1_nextOf 2 (some .int) 1 := ⟨⟨gTb_6 (List.mem_of_getElem? (i := 185) rfl) rfl, gTb_4 (List.mem_of_getElem? (i := 136) rfl) rfl, gTb_1 (List.mem_of_getElem? (i := 3) rfl) rfl, ⟨by decide +kernel, by decide +kernel⟩, by decide +kernel, by decide⟩, gTb_4 (List.mem_of_getElem? (i := 134) rfl) rfl, gTb_4 (List.mem_of_getElem? (i := 135) rfl) rfl⟩
set_option maxRecDepth 20000 in
theorem ck_X4_102 : gCalV RX4 102 yX1_typeOf cX1_typeOf 2 (some .int) 1 := ⟨⟨gTb_6 (List.mem_of_getElem? (i := 152) rfl) rfl, gTb_4 (List.mem_of_getElem? (i := 148) rfl) rfl, gTb_1 (List.mem_of_getElem? (i := 3) rfl) rfl, ⟨by decide +kernel, by decide +kernel⟩, by decide +kernel, by decide⟩, gTb_4 (List.mem_of_getElem? (i := 146) rfl) rfl, gTb_4 (List.mem_of_getElem? (i := 147) rfl) rfl⟩
set_option maxRecDepth 20000 in
theorem ck_X4_105 : gCalV RX4 105 yX1_atOf cX1_atOf 2 (some .int) 1 := ⟨⟨gTb_6 (List.mem_of_getElem? (i := 153) rfl) rfl, gTb_4 (List.mem_of_getElem? (i := 188) rfl) rfl, gTb_1 (List.mem_of_getElem? (i := 3) rfl) rfl, ⟨by decide +kernel, by decide +kernel⟩, by decide +kernel, by decide⟩, gTb_4 (List.mem_of_getElem? (i := 186) rfl) rfl, gTb_4 (List.mem_of_getElem? (i := 187) rfl) rfl⟩
set_option maxRecDepth 20000 in
theorem ck_X4_110 : gCalV RX4 110 yX1_firstOf cX1_firstOf 2 (some .int) 1 := ⟨⟨gTb_6 (List.mem_of_getElem? (i := 155) rfl) rfl, gTb_4 (List.mem_of_getElem? (i := 131) rfl) rfl, gTb_1 (List.mem_of_getElem? (i := 3) rfl) rfl, ⟨by decide +kernel, by decide +kernel⟩, by decide +kernel, by decide⟩, gTb_4 (List.mem_of_getElem? (i := 129) rfl) rfl, gTb_4 (List.mem_of_getElem? (i := 130) rfl) rfl⟩
set_option maxRecDepth 20000 in
theorem ck_X4_113 : gCalV RX4 113 yX4_putLine cX4_putLine 3 none 2 := ⟨⟨gTb_6 (List.mem_of_getElem? (i := 156) rfl) rfl, gTb_6 (List.mem_of_getElem? (i := 159) rfl) rfl, gTb_1 (List.mem_of_getElem? (i := 5) rfl) rfl, ⟨by decide +kernel, by decide +kernel⟩, by decide +kernel, by decide⟩, gTb_6 (List.mem_of_getElem? (i := 158) rfl) rfl, gPr_6 (q := (⟨"FigureTexts$Printer", "putLine", "(Ljava/lang/String;I)V"⟩, _)) (List.mem_of_getElem? (i := 3) rfl)⟩
set_option maxRecDepth 20000 in
theorem ck_X4_117 : gCalV RX4 117 yX4_putExp cX4_putExp 6 none 1 := ⟨⟨gTb_6 (List.mem_of_getElem? (i := 160) rfl) rfl, gTb_6 (List.mem_of_getElem? (i := 163) rfl) rfl, gTb_1 (List.mem_of_getElem? (i := 5) rfl) rfl, ⟨by decide +kernel, by decide +kernel⟩, by decide +kernel, by decide⟩, gTb_6 (List.mem_of_getElem? (i := 162) rfl) rfl, gPr_6 (q := (⟨"FigureTexts$Printer", "putExp", "(I)V"⟩, _)) (List.mem_of_getElem? (i := 4) rfl)⟩
set_option maxRecDepth 20000 in
theorem ck_X4_128 : gCalV RX4 128 yX4_putBlocks cX4_putBlocks 4 none 2 := ⟨⟨gTb_6 (List.mem_of_getElem? (i := 199) rfl) rfl, gTb_6 (List.mem_of_getElem? (i := 202) rfl) rfl, gTb_1 (List.mem_of_getElem? (i := 5) rfl) rfl, ⟨by decide +kernel, by decide +kernel⟩, by decide +kernel, by decide⟩, gTb_6 (List.mem_of_getElem? (i := 201) rfl) rfl, gPr_6 (q := (⟨"FigureTexts$Printer", "putBlocks", "(II)V"⟩, _)) (List.mem_of_getElem? (i := 10) rfl)⟩
set_option maxRecDepth 20000 in
theorem ck_X4_139 : gCalV RX4 139 yX1_bodyOf cX1_bodyOf 2 (some .int) 1 := ⟨⟨gTb_6 (List.mem_of_getElem? (i := 206) rfl) rfl, gTb_6 (List.mem_of_getElem? (i := 64) rfl) rfl, gTb_1 (List.mem_of_getElem? (i := 3) rfl) rfl, ⟨by decide +kernel, by decide +kernel⟩, by decide +kernel, by decide⟩, gTb_6 (List.mem_of_getElem? (i := 62) rfl) rfl, gTb_6 (List.mem_of_getElem? (i := 63) rfl) rfl⟩
set_option maxRecDepth 20000 in
theorem ck_X4_142 : gCalV RX4 142 yX1_dataOf cX1_dataOf 2 (some .int) 1 := ⟨⟨gTb_6 (List.mem_of_getElem? (i := 173) rfl) rfl, gTb_4 (List.mem_of_getElem? (i := 152) rfl) rfl, gTb_1 (List.mem_of_getElem? (i := 3) rfl) rfl, ⟨by decide +kernel, by decide +kernel⟩, by decide +kernel, by decide⟩, gTb_4 (List.mem_of_getElem? (i := 150) rfl) rfl, gTb_4 (List.mem_of_getElem? (i := 151) rfl) rfl⟩
set_option maxRecDepth 20000 in
theorem ck_X4_147 : gCalV RX4 147 yX1_otherOf cX1_otherOf 2 (some .int) 1 := ⟨⟨gTb_6 (List.mem_of_getElem? (i := 208) rfl) rfl, gTb_4 (List.mem_of_getElem? (i := 201) rfl) rfl, gTb_1 (List.mem_of_getElem? (i := 3) rfl) rfl, ⟨by decide +kernel, by decide +kernel⟩, by decide +kernel, by decide⟩, gTb_4 (List.mem_of_getElem? (i := 199) rfl) rfl, gTb_4 (List.mem_of_getElem? (i := 200) rfl) rfl⟩
set_option maxRecDepth 20000 in
theorem ck_X4_150 : gCalV RX4 150 yX4_begin cX4_begin 3 none 2 := ⟨⟨gTb_6 (List.mem_of_getElem? (i := 164) rfl) rfl, gTb_6 (List.mem_of_getElem? (i := 167) rfl) rfl, gTb_1 (List.mem_of_getElem? (i := 5) rfl) rfl, ⟨by decide +kernel, by decide +kernel⟩, by decide +kernel, by decide⟩, gTb_6 (List.mem_of_getElem? (i := 166) rfl) rfl, gPr_6 (q := (⟨"FigureTexts$Printer", "begin", "(II)V"⟩, _)) (List.mem_of_getElem? (i := 5) rfl)⟩
set_option maxRecDepth 20000 in
theorem ck_X4_154 : gCalN RX4 154 yX12_inside cX12_inside 2 (some .boolean) 2 "FigureTexts" := ⟨⟨gTb_2 (List.mem_of_getElem? (i := 207) rfl) rfl, gTb_1 (List.mem_of_getElem? (i := 1) rfl) rfl, ⟨by decide +kernel, by decide +kernel⟩, by decide +kernel, by decide⟩, gTb_2 (List.mem_of_getElem? (i := 206) rfl) rfl⟩
theorem cw_X4_154 : Cond.methodLinkNest RX4 154 yX12_inside "FigureTexts" ∈ cNest := List.mem_of_getElem? (i := 16) rfl
set_option maxRecDepth 20000 in
theorem ck_X4_158 : gCalV RX4 158 yX4_end cX4_end 4 none 2 := ⟨⟨gTb_6 (List.mem_of_getElem? (i := 181) rfl) rfl, gTb_6 (List.mem_of_getElem? (i := 184) rfl) rfl, gTb_1 (List.mem_of_getElem? (i := 5) rfl) rfl, ⟨by decide +kernel, by decide +kernel⟩, by decide +kernel, by decide⟩, gTb_6 (List.mem_of_getElem? (i := 183) rfl) rfl, gPr_6 (q := (⟨"FigureTexts$Printer", "end", "(IZ)V"⟩, _)) (List.mem_of_getElem? (i := 7) rfl)⟩
set_option maxRecDepth 20000 in
theorem ck_X4_162 : gCalV RX4 162 yX4_putBetween cX4_putBetween 2 none 1 := ⟨⟨gTb_6 (List.mem_of_getElem? (i := 186) rfl) rfl, gTb_6 (List.mem_of_getElem? (i := 189) rfl) rfl, gTb_1 (List.mem_of_getElem? (i := 5) rfl) rfl, ⟨by decide +kernel, by decide +kernel⟩, by decide +kernel, by decide⟩, gTb_6 (List.mem_of_getElem? (i := 188) rfl) rfl, gPr_6 (q := (⟨"FigureTexts$Printer", "putBetween", "(I)V"⟩, _)) (List.mem_of_getElem? (i := 8) rfl)⟩
set_option maxRecDepth 20000 in
theorem ck_X4_165 : gCalV RX4 165 yX4_tightness cX4_tightness 5 (some .int) 2 := ⟨⟨gTb_6 (List.mem_of_getElem? (i := 190) rfl) rfl, gTb_6 (List.mem_of_getElem? (i := 193) rfl) rfl, gTb_1 (List.mem_of_getElem? (i := 5) rfl) rfl, ⟨by decide +kernel, by decide +kernel⟩, by decide +kernel, by decide⟩, gTb_6 (List.mem_of_getElem? (i := 192) rfl) rfl, gPr_6 (q := (⟨"FigureTexts$Printer", "tightness", "(IZ)I"⟩, _)) (List.mem_of_getElem? (i := 9) rfl)⟩
set_option maxRecDepth 20000 in
theorem ck_X4_169 : gCalV RX4 169 yX4_levelOf cX4_levelOf 2 (some .int) 1 := ⟨⟨gTb_6 (List.mem_of_getElem? (i := 169) rfl) rfl, gTb_6 (List.mem_of_getElem? (i := 172) rfl) rfl, gTb_1 (List.mem_of_getElem? (i := 5) rfl) rfl, ⟨by decide +kernel, by decide +kernel⟩, by decide +kernel, by decide⟩, gTb_6 (List.mem_of_getElem? (i := 171) rfl) rfl, gPr_6 (q := (⟨"FigureTexts$Printer", "levelOf", "(I)I"⟩, _)) (List.mem_of_getElem? (i := 6) rfl)⟩
set_option maxRecDepth 20000 in
theorem ck_X4_172 : gCalV RX4 172 yX3_putWhole cX3_putWhole 7 none 1 := ⟨⟨gTb_6 (List.mem_of_getElem? (i := 174) rfl) rfl, gTb_6 (List.mem_of_getElem? (i := 177) rfl) rfl, gTb_1 (List.mem_of_getElem? (i := 2) rfl) rfl, ⟨by decide +kernel, by decide +kernel⟩, by decide +kernel, by decide⟩, gTb_6 (List.mem_of_getElem? (i := 175) rfl) rfl, gTb_6 (List.mem_of_getElem? (i := 176) rfl) rfl⟩
theorem fk_X5_9 : Cond.fieldLink RX5 9 "FigureTexts$Reader" "at" "I" ∈ gTb := gTb_1 (List.mem_of_getElem? (i := 134) rfl) rfl
theorem fk_X5_15 : Cond.fieldLink RX5 15 "FigureTexts$Reader" "end" "I" ∈ gTb := gTb_1 (List.mem_of_getElem? (i := 135) rfl) rfl
theorem fk_X5_18 : Cond.fieldLink RX5 18 "FigureTexts$Reader" "kind" "I" ∈ gTb := gTb_1 (List.mem_of_getElem? (i := 136) rfl) rfl
theorem fk_X5_21 : Cond.fieldLink RX5 21 "FigureTexts$Reader" "sign" "I" ∈ gTb := gTb_1 (List.mem_of_getElem? (i := 137) rfl) rfl
theorem fk_X5_24 : Cond.fieldLink RX5 24 "FigureTexts$Reader" "scope" "I" ∈ gTb := gTb_1 (List.mem_of_getElem? (i := 138) rfl) rfl
theorem fk_X5_27 : Cond.fieldLink RX5 27 "FigureTexts$Reader" "depth" "I" ∈ gTb := gTb_1 (List.mem_of_getElem? (i := 139) rfl) rfl
theorem fk_X5_30 : Cond.fieldLink RX5 30 "FigureTexts$Reader" "fault" "I" ∈ gTb := gTb_1 (List.mem_of_getElem? (i := 140) rfl) rfl
theorem fk_X5_33 : Cond.fieldLink RX5 33 "FigureTexts$Reader" "faultAt" "I" ∈ gTb := gTb_1 (List.mem_of_getElem? (i := 141) rfl) rfl
theorem fk_X5_36 : Cond.fieldLink RX5 36 "FigureTexts$Reader" "figure" "LFigureTexts$Figure;" ∈ gTb := gTb_1 (List.mem_of_getElem? (i := 133) rfl) rfl
set_option maxRecDepth 20000 in
theorem ck_X5_40 : gCalV RX5 40 yX5_next cX5_next 5 none 0 := ⟨⟨gTb_2 (List.mem_of_getElem? (i := 228) rfl) rfl, gTb_2 (List.mem_of_getElem? (i := 231) rfl) rfl, gTb_1 (List.mem_of_getElem? (i := 4) rfl) rfl, ⟨by decide +kernel, by decide +kernel⟩, by decide +kernel, by decide⟩, gTb_2 (List.mem_of_getElem? (i := 230) rfl) rfl, gPr_1 (q := (⟨"FigureTexts$Reader", "next", "()V"⟩, _)) (List.mem_of_getElem? (i := 1) rfl)⟩
set_option maxRecDepth 20000 in
theorem ck_X5_45 : gCalV RX5 45 yX1_isWord cX1_isWord 4 (some .boolean) 2 := ⟨⟨gTb_3 (List.mem_of_getElem? (i := 84) rfl) rfl, gTb_3 (List.mem_of_getElem? (i := 87) rfl) rfl, gTb_1 (List.mem_of_getElem? (i := 3) rfl) rfl, ⟨by decide +kernel, by decide +kernel⟩, by decide +kernel, by decide⟩, gTb_3 (List.mem_of_getElem? (i := 85) rfl) rfl, gTb_3 (List.mem_of_getElem? (i := 86) rfl) rfl⟩
set_option maxRecDepth 20000 in
theorem ck_X5_51 : gCalV RX5 51 yX5_header cX5_header 2 (some .int) 0 := ⟨⟨gTb_3 (List.mem_of_getElem? (i := 113) rfl) rfl, gTb_3 (List.mem_of_getElem? (i := 116) rfl) rfl, gTb_1 (List.mem_of_getElem? (i := 4) rfl) rfl, ⟨by decide +kernel, by decide +kernel⟩, by decide +kernel, by decide⟩, gTb_3 (List.mem_of_getElem? (i := 115) rfl) rfl, gPr_1 (q := (⟨"FigureTexts$Reader", "header", "()I"⟩, _)) (List.mem_of_getElem? (i := 2) rfl)⟩
set_option maxRecDepth 20000 in
theorem ck_X5_55 : gCalV RX5 55 yX5_block cX5_block 2 (some .int) 0 := ⟨⟨gTb_3 (List.mem_of_getElem? (i := 182) rfl) rfl, gTb_3 (List.mem_of_getElem? (i := 185) rfl) rfl, gTb_1 (List.mem_of_getElem? (i := 4) rfl) rfl, ⟨by decide +kernel, by decide +kernel⟩, by decide +kernel, by decide⟩, gTb_3 (List.mem_of_getElem? (i := 184) rfl) rfl, gPr_1 (q := (⟨"FigureTexts$Reader", "block", "()I"⟩, _)) (List.mem_of_getElem? (i := 10) rfl)⟩
set_option maxRecDepth 20000 in
theorem ck_X5_58 : gCalV RX5 58 yX1_endMacro cX1_endMacro 3 none 2 := ⟨⟨gTb_4 (List.mem_of_getElem? (i := 48) rfl) rfl, gTb_4 (List.mem_of_getElem? (i := 51) rfl) rfl, gTb_1 (List.mem_of_getElem? (i := 3) rfl) rfl, ⟨by decide +kernel, by decide +kernel⟩, by decide +kernel, by decide⟩, gTb_4 (List.mem_of_getElem? (i := 49) rfl) rfl, gTb_4 (List.mem_of_getElem? (i := 50) rfl) rfl⟩
set_option maxRecDepth 20000 in
theorem ck_X5_62 : gCalV RX5 62 yX5_deeds cX5_deeds 5 (some .int) 0 := ⟨⟨gTb_3 (List.mem_of_getElem? (i := 190) rfl) rfl, gTb_3 (List.mem_of_getElem? (i := 193) rfl) rfl, gTb_1 (List.mem_of_getElem? (i := 4) rfl) rfl, ⟨by decide +kernel, by decide +kernel⟩, by decide +kernel, by decide⟩, gTb_3 (List.mem_of_getElem? (i := 192) rfl) rfl, gPr_1 (q := (⟨"FigureTexts$Reader", "deeds", "()I"⟩, _)) (List.mem_of_getElem? (i := 12) rfl)⟩
theorem fk_X5_65 : Cond.fieldLink RX5 65 "FigureTexts$Figure" "firstDeed" "I" ∈ gTb := gTb_1 (List.mem_of_getElem? (i := 79) rfl) rfl
set_option maxRecDepth 20000 in
theorem ck_X5_68 : gCalV RX5 68 yX5_misplaced cX5_misplaced 1 (some .int) 0 := ⟨⟨gTb_3 (List.mem_of_getElem? (i := 127) rfl) rfl, gTb_3 (List.mem_of_getElem? (i := 130) rfl) rfl, gTb_1 (List.mem_of_getElem? (i := 4) rfl) rfl, ⟨by decide +kernel, by decide +kernel⟩, by decide +kernel, by decide⟩, gTb_3 (List.mem_of_getElem? (i := 129) rfl) rfl, gPr_1 (q := (⟨"FigureTexts$Reader", "misplaced", "()I"⟩, _)) (List.mem_of_getElem? (i := 4) rfl)⟩
set_option maxRecDepth 20000 in
theorem ck_X5_71 : gCalV RX5 71 yX5_noteFault cX5_noteFault 3 none 2 := ⟨⟨gTb_3 (List.mem_of_getElem? (i := 131) rfl) rfl, gTb_3 (List.mem_of_getElem? (i := 134) rfl) rfl, gTb_1 (List.mem_of_getElem? (i := 4) rfl) rfl, ⟨by decide +kernel, by decide +kernel⟩, by decide +kernel, by decide⟩, gTb_3 (List.mem_of_getElem? (i := 133) rfl) rfl, gPr_1 (q := (⟨"FigureTexts$Reader", "noteFault", "(II)V"⟩, _)) (List.mem_of_getElem? (i := 5) rfl)⟩
set_option maxRecDepth 20000 in
theorem ck_X5_74 : gCalV RX5 74 yX1_byteAt cX1_byteAt 2 (some .int) 1 := ⟨⟨gTb_2 (List.mem_of_getElem? (i := 232) rfl) rfl, gTb_2 (List.mem_of_getElem? (i := 235) rfl) rfl, gTb_1 (List.mem_of_getElem? (i := 3) rfl) rfl, ⟨by decide +kernel, by decide +kernel⟩, by decide +kernel, by decide⟩, gTb_2 (List.mem_of_getElem? (i := 233) rfl) rfl, gTb_2 (List.mem_of_getElem? (i := 234) rfl) rfl⟩
theorem fk_X5_78 : Cond.fieldLink RX5 78 "FigureTexts$Figure" "length" "I" ∈ gTb := gTb_1 (List.mem_of_getElem? (i := 64) rfl) rfl
set_option maxRecDepth 20000 in
theorem ck_X5_88 : gCalV RX5 88 yX5_isSign cX5_isSign 2 (some .boolean) 1 := ⟨⟨gTb_3 (List.mem_of_getElem? (i := 152) rfl) rfl, gTb_3 (List.mem_of_getElem? (i := 155) rfl) rfl, gTb_1 (List.mem_of_getElem? (i := 4) rfl) rfl, ⟨by decide +kernel, by decide +kernel⟩, by decide +kernel, by decide⟩, gTb_3 (List.mem_of_getElem? (i := 154) rfl) rfl, gPr_1 (q := (⟨"FigureTexts$Reader", "isSign", "(C)Z"⟩, _)) (List.mem_of_getElem? (i := 7) rfl)⟩
set_option maxRecDepth 20000 in
theorem ck_X5_104 : gCalV RX5 104 yX1_add cX1_add 5 (some .int) 3 := ⟨⟨gTb_3 (List.mem_of_getElem? (i := 206) rfl) rfl, gTb_3 (List.mem_of_getElem? (i := 209) rfl) rfl, gTb_1 (List.mem_of_getElem? (i := 3) rfl) rfl, ⟨by decide +kernel, by decide +kernel⟩, by decide +kernel, by decide⟩, gTb_3 (List.mem_of_getElem? (i := 207) rfl) rfl, gTb_3 (List.mem_of_getElem? (i := 208) rfl) rfl⟩
set_option maxRecDepth 20000 in
theorem ck_X5_118 : gCalV RX5 118 yX5_isName cX5_isName 1 (some .boolean) 0 := ⟨⟨gTb_3 (List.mem_of_getElem? (i := 117) rfl) rfl, gTb_3 (List.mem_of_getElem? (i := 120) rfl) rfl, gTb_1 (List.mem_of_getElem? (i := 4) rfl) rfl, ⟨by decide +kernel, by decide +kernel⟩, by decide +kernel, by decide⟩, gTb_3 (List.mem_of_getElem? (i := 119) rfl) rfl, gPr_1 (q := (⟨"FigureTexts$Reader", "isName", "()Z"⟩, _)) (List.mem_of_getElem? (i := 3) rfl)⟩
theorem fk_X5_122 : Cond.fieldLink RX5 122 "FigureTexts$Figure" "macros" "I" ∈ gTb := gTb_1 (List.mem_of_getElem? (i := 88) rfl) rfl
set_option maxRecDepth 20000 in
theorem ck_X5_125 : gCalS RX5 125 yX5_toolNumber cX5_toolNumber 3 (some .int) 2 := ⟨⟨gTb_3 (List.mem_of_getElem? (i := 135) rfl) rfl, gTb_3 (List.mem_of_getElem? (i := 137) rfl) rfl, gTb_1 (List.mem_of_getElem? (i := 4) rfl) rfl, ⟨by decide +kernel, by decide +kernel⟩, by decide +kernel, by decide⟩, gTb_3 (List.mem_of_getElem? (i := 136) rfl) rfl⟩
set_option maxRecDepth 20000 in
theorem ck_X5_129 : gCalV RX5 129 yX1_macroNumber cX1_macroNumber 3 (some .int) 1 := ⟨⟨gTb_3 (List.mem_of_getElem? (i := 140) rfl) rfl, gTb_3 (List.mem_of_getElem? (i := 143) rfl) rfl, gTb_1 (List.mem_of_getElem? (i := 3) rfl) rfl, ⟨by decide +kernel, by decide +kernel⟩, by decide +kernel, by decide⟩, gTb_3 (List.mem_of_getElem? (i := 141) rfl) rfl, gTb_3 (List.mem_of_getElem? (i := 142) rfl) rfl⟩
set_option maxRecDepth 20000 in
theorem ck_X5_132 : gCalV RX5 132 yX5_want cX5_want 2 none 1 := ⟨⟨gTb_3 (List.mem_of_getElem? (i := 148) rfl) rfl, gTb_3 (List.mem_of_getElem? (i := 151) rfl) rfl, gTb_1 (List.mem_of_getElem? (i := 4) rfl) rfl, ⟨by decide +kernel, by decide +kernel⟩, by decide +kernel, by decide⟩, gTb_3 (List.mem_of_getElem? (i := 150) rfl) rfl, gPr_1 (q := (⟨"FigureTexts$Reader", "want", "(C)V"⟩, _)) (List.mem_of_getElem? (i := 6) rfl)⟩
set_option maxRecDepth 20000 in
theorem ck_X5_136 : gCalV RX5 136 yX5_params cX5_params 2 none 0 := ⟨⟨gTb_3 (List.mem_of_getElem? (i := 156) rfl) rfl, gTb_3 (List.mem_of_getElem? (i := 159) rfl) rfl, gTb_1 (List.mem_of_getElem? (i := 4) rfl) rfl, ⟨by decide +kernel, by decide +kernel⟩, by decide +kernel, by decide⟩, gTb_3 (List.mem_of_getElem? (i := 158) rfl) rfl, gPr_1 (q := (⟨"FigureTexts$Reader", "params", "()V"⟩, _)) (List.mem_of_getElem? (i := 8) rfl)⟩
set_option maxRecDepth 20000 in
theorem ck_X5_139 : gCalV RX5 139 yX1_endHeader cX1_endHeader 2 none 1 := ⟨⟨gTb_3 (List.mem_of_getElem? (i := 178) rfl) rfl, gTb_3 (List.mem_of_getElem? (i := 181) rfl) rfl, gTb_1 (List.mem_of_getElem? (i := 3) rfl) rfl, ⟨by decide +kernel, by decide +kernel⟩, by decide +kernel, by decide⟩, gTb_3 (List.mem_of_getElem? (i := 179) rfl) rfl, gTb_3 (List.mem_of_getElem? (i := 180) rfl) rfl⟩
set_option maxRecDepth 20000 in
theorem ck_X5_143 : gCalV RX5 143 yX5_param cX5_param 1 none 0 := ⟨⟨gTb_3 (List.mem_of_getElem? (i := 160) rfl) rfl, gTb_3 (List.mem_of_getElem? (i := 163) rfl) rfl, gTb_1 (List.mem_of_getElem? (i := 4) rfl) rfl, ⟨by decide +kernel, by decide +kernel⟩, by decide +kernel, by decide⟩, gTb_3 (List.mem_of_getElem? (i := 162) rfl) rfl, gPr_1 (q := (⟨"FigureTexts$Reader", "param", "()V"⟩, _)) (List.mem_of_getElem? (i := 9) rfl)⟩
set_option maxRecDepth 20000 in
theorem ck_X5_146 : gCalV RX5 146 yX1_namesIn cX1_namesIn 2 (some .int) 1 := ⟨⟨gTb_3 (List.mem_of_getElem? (i := 164) rfl) rfl, gTb_3 (List.mem_of_getElem? (i := 167) rfl) rfl, gTb_1 (List.mem_of_getElem? (i := 3) rfl) rfl, ⟨by decide +kernel, by decide +kernel⟩, by decide +kernel, by decide⟩, gTb_3 (List.mem_of_getElem? (i := 165) rfl) rfl, gTb_3 (List.mem_of_getElem? (i := 166) rfl) rfl⟩
set_option maxRecDepth 20000 in
theorem ck_X5_149 : gCalV RX5 149 yX1_nameNumber cX1_nameNumber 4 (some .int) 2 := ⟨⟨gTb_3 (List.mem_of_getElem? (i := 169) rfl) rfl, gTb_3 (List.mem_of_getElem? (i := 172) rfl) rfl, gTb_1 (List.mem_of_getElem? (i := 3) rfl) rfl, ⟨by decide +kernel, by decide +kernel⟩, by decide +kernel, by decide⟩, gTb_3 (List.mem_of_getElem? (i := 170) rfl) rfl, gTb_3 (List.mem_of_getElem? (i := 171) rfl) rfl⟩
set_option maxRecDepth 20000 in
theorem ck_X5_153 : gCalV RX5 153 yX1_tell cX1_tell 4 (some .int) 2 := ⟨⟨gTb_3 (List.mem_of_getElem? (i := 174) rfl) rfl, gTb_3 (List.mem_of_getElem? (i := 177) rfl) rfl, gTb_1 (List.mem_of_getElem? (i := 3) rfl) rfl, ⟨by decide +kernel, by decide +kernel⟩, by decide +kernel, by decide⟩, gTb_3 (List.mem_of_getElem? (i := 175) rfl) rfl, gTb_3 (List.mem_of_getElem? (i := 176) rfl) rfl⟩
set_option maxRecDepth 20000 in
theorem ck_X5_156 : gCalV RX5 156 yX5_open cX5_open 2 none 1 := ⟨⟨gTb_3 (List.mem_of_getElem? (i := 186) rfl) rfl, gTb_3 (List.mem_of_getElem? (i := 189) rfl) rfl, gTb_1 (List.mem_of_getElem? (i := 4) rfl) rfl, ⟨by decide +kernel, by decide +kernel⟩, by decide +kernel, by decide⟩, gTb_3 (List.mem_of_getElem? (i := 188) rfl) rfl, gPr_1 (q := (⟨"FigureTexts$Reader", "open", "(C)V"⟩, _)) (List.mem_of_getElem? (i := 11) rfl)⟩
set_option maxRecDepth 20000 in
theorem ck_X5_159 : gCalV RX5 159 yX5_close cX5_close 2 none 1 := ⟨⟨gTb_3 (List.mem_of_getElem? (i := 238) rfl) rfl, gTb_4 (List.mem_of_getElem? (i := 1) rfl) rfl, gTb_1 (List.mem_of_getElem? (i := 4) rfl) rfl, ⟨by decide +kernel, by decide +kernel⟩, by decide +kernel, by decide⟩, gTb_4 (List.mem_of_getElem? (i := 0) rfl) rfl, gPr_2 (q := (⟨"FigureTexts$Reader", "close", "(C)V"⟩, _)) (List.mem_of_getElem? (i := 5) rfl)⟩
set_option maxRecDepth 20000 in
theorem ck_X5_162 : gCalV RX5 162 yX5_deed cX5_deed 2 (some .int) 0 := ⟨⟨gTb_3 (List.mem_of_getElem? (i := 194) rfl) rfl, gTb_3 (List.mem_of_getElem? (i := 197) rfl) rfl, gTb_1 (List.mem_of_getElem? (i := 4) rfl) rfl, ⟨by decide +kernel, by decide +kernel⟩, by decide +kernel, by decide⟩, gTb_3 (List.mem_of_getElem? (i := 196) rfl) rfl, gPr_1 (q := (⟨"FigureTexts$Reader", "deed", "()I"⟩, _)) (List.mem_of_getElem? (i := 13) rfl)⟩
set_option maxRecDepth 20000 in
theorem ck_X5_165 : gCalV RX5 165 yX1_follow cX1_follow 3 none 2 := ⟨⟨gTb_4 (List.mem_of_getElem? (i := 24) rfl) rfl, gTb_4 (List.mem_of_getElem? (i := 27) rfl) rfl, gTb_1 (List.mem_of_getElem? (i := 3) rfl) rfl, ⟨by decide +kernel, by decide +kernel⟩, by decide +kernel, by decide⟩, gTb_4 (List.mem_of_getElem? (i := 25) rfl) rfl, gTb_4 (List.mem_of_getElem? (i := 26) rfl) rfl⟩
set_option maxRecDepth 20000 in
theorem ck_X5_168 : gCalV RX5 168 yX5_telling cX5_telling 5 (some .int) 0 := ⟨⟨gTb_3 (List.mem_of_getElem? (i := 198) rfl) rfl, gTb_3 (List.mem_of_getElem? (i := 201) rfl) rfl, gTb_1 (List.mem_of_getElem? (i := 4) rfl) rfl, ⟨by decide +kernel, by decide +kernel⟩, by decide +kernel, by decide⟩, gTb_3 (List.mem_of_getElem? (i := 200) rfl) rfl, gPr_1 (q := (⟨"FigureTexts$Reader", "telling", "()I"⟩, _)) (List.mem_of_getElem? (i := 14) rfl)⟩
set_option maxRecDepth 20000 in
theorem ck_X5_171 : gCalV RX5 171 yX5_branch cX5_branch 2 (some .int) 0 := ⟨⟨gTb_4 (List.mem_of_getElem? (i := 32) rfl) rfl, gTb_4 (List.mem_of_getElem? (i := 35) rfl) rfl, gTb_1 (List.mem_of_getElem? (i := 4) rfl) rfl, ⟨by decide +kernel, by decide +kernel⟩, by decide +kernel, by decide⟩, gTb_4 (List.mem_of_getElem? (i := 34) rfl) rfl, gPr_2 (q := (⟨"FigureTexts$Reader", "branch", "()I"⟩, _)) (List.mem_of_getElem? (i := 11) rfl)⟩
set_option maxRecDepth 20000 in
theorem ck_X5_174 : gCalV RX5 174 yX5_newNode cX5_newNode 4 (some .int) 2 := ⟨⟨gTb_3 (List.mem_of_getElem? (i := 202) rfl) rfl, gTb_3 (List.mem_of_getElem? (i := 205) rfl) rfl, gTb_1 (List.mem_of_getElem? (i := 4) rfl) rfl, ⟨by decide +kernel, by decide +kernel⟩, by decide +kernel, by decide⟩, gTb_3 (List.mem_of_getElem? (i := 204) rfl) rfl, gPr_1 (q := (⟨"FigureTexts$Reader", "newNode", "(II)I"⟩, _)) (List.mem_of_getElem? (i := 15) rfl)⟩
set_option maxRecDepth 20000 in
theorem ck_X5_177 : gCalV RX5 177 yX5_exp cX5_exp 2 (some .int) 0 := ⟨⟨gTb_3 (List.mem_of_getElem? (i := 214) rfl) rfl, gTb_3 (List.mem_of_getElem? (i := 217) rfl) rfl, gTb_1 (List.mem_of_getElem? (i := 4) rfl) rfl, ⟨by decide +kernel, by decide +kernel⟩, by decide +kernel, by decide⟩, gTb_3 (List.mem_of_getElem? (i := 216) rfl) rfl, gPr_2 (q := (⟨"FigureTexts$Reader", "exp", "()I"⟩, _)) (List.mem_of_getElem? (i := 0) rfl)⟩
set_option maxRecDepth 20000 in
theorem ck_X5_180 : gCalV RX5 180 yX1_hang cX1_hang 3 none 2 := ⟨⟨gTb_3 (List.mem_of_getElem? (i := 230) rfl) rfl, gTb_3 (List.mem_of_getElem? (i := 233) rfl) rfl, gTb_1 (List.mem_of_getElem? (i := 3) rfl) rfl, ⟨by decide +kernel, by decide +kernel⟩, by decide +kernel, by decide⟩, gTb_3 (List.mem_of_getElem? (i := 231) rfl) rfl, gTb_3 (List.mem_of_getElem? (i := 232) rfl) rfl⟩
set_option maxRecDepth 20000 in
theorem ck_X5_183 : gCalV RX5 183 yX1_hangBlock cX1_hangBlock 3 none 2 := ⟨⟨gTb_4 (List.mem_of_getElem? (i := 36) rfl) rfl, gTb_4 (List.mem_of_getElem? (i := 39) rfl) rfl, gTb_1 (List.mem_of_getElem? (i := 3) rfl) rfl, ⟨by decide +kernel, by decide +kernel⟩, by decide +kernel, by decide⟩, gTb_4 (List.mem_of_getElem? (i := 37) rfl) rfl, gTb_4 (List.mem_of_getElem? (i := 38) rfl) rfl⟩
set_option maxRecDepth 20000 in
theorem ck_X5_186 : gCalV RX5 186 yX5_plain cX5_plain 3 (some .int) 1 := ⟨⟨gTb_4 (List.mem_of_getElem? (i := 44) rfl) rfl, gTb_4 (List.mem_of_getElem? (i := 47) rfl) rfl, gTb_1 (List.mem_of_getElem? (i := 4) rfl) rfl, ⟨by decide +kernel, by decide +kernel⟩, by decide +kernel, by decide⟩, gTb_4 (List.mem_of_getElem? (i := 46) rfl) rfl, gPr_2 (q := (⟨"FigureTexts$Reader", "plain", "(I)I"⟩, _)) (List.mem_of_getElem? (i := 12) rfl)⟩
set_option maxRecDepth 20000 in
theorem ck_X5_189 : gCalV RX5 189 yX1_hangElse cX1_hangElse 3 none 2 := ⟨⟨gTb_4 (List.mem_of_getElem? (i := 40) rfl) rfl, gTb_4 (List.mem_of_getElem? (i := 43) rfl) rfl, gTb_1 (List.mem_of_getElem? (i := 3) rfl) rfl, ⟨by decide +kernel, by decide +kernel⟩, by decide +kernel, by decide⟩, gTb_4 (List.mem_of_getElem? (i := 41) rfl) rfl, gTb_4 (List.mem_of_getElem? (i := 42) rfl) rfl⟩
set_option maxRecDepth 20000 in
theorem ck_X5_192 : gCalV RX5 192 yX1_become cX1_become 4 none 3 := ⟨⟨gTb_3 (List.mem_of_getElem? (i := 210) rfl) rfl, gTb_3 (List.mem_of_getElem? (i := 213) rfl) rfl, gTb_1 (List.mem_of_getElem? (i := 3) rfl) rfl, ⟨by decide +kernel, by decide +kernel⟩, by decide +kernel, by decide⟩, gTb_3 (List.mem_of_getElem? (i := 211) rfl) rfl, gTb_3 (List.mem_of_getElem? (i := 212) rfl) rfl⟩
set_option maxRecDepth 20000 in
theorem ck_X5_196 : gCalV RX5 196 yX5_sum cX5_sum 3 (some .int) 0 := ⟨⟨gTb_3 (List.mem_of_getElem? (i := 218) rfl) rfl, gTb_3 (List.mem_of_getElem? (i := 221) rfl) rfl, gTb_1 (List.mem_of_getElem? (i := 4) rfl) rfl, ⟨by decide +kernel, by decide +kernel⟩, by decide +kernel, by decide⟩, gTb_3 (List.mem_of_getElem? (i := 220) rfl) rfl, gPr_2 (q := (⟨"FigureTexts$Reader", "sum", "()I"⟩, _)) (List.mem_of_getElem? (i := 1) rfl)⟩
set_option maxRecDepth 20000 in
theorem ck_X5_199 : gCalV RX5 199 yX5_joined cX5_joined 4 (some .int) 2 := ⟨⟨gTb_4 (List.mem_of_getElem? (i := 28) rfl) rfl, gTb_4 (List.mem_of_getElem? (i := 31) rfl) rfl, gTb_1 (List.mem_of_getElem? (i := 4) rfl) rfl, ⟨by decide +kernel, by decide +kernel⟩, by decide +kernel, by decide⟩, gTb_4 (List.mem_of_getElem? (i := 30) rfl) rfl, gPr_2 (q := (⟨"FigureTexts$Reader", "joined", "(II)I"⟩, _)) (List.mem_of_getElem? (i := 10) rfl)⟩
set_option maxRecDepth 20000 in
theorem ck_X5_202 : gCalV RX5 202 yX5_term cX5_term 3 (some .int) 0 := ⟨⟨gTb_3 (List.mem_of_getElem? (i := 222) rfl) rfl, gTb_3 (List.mem_of_getElem? (i := 225) rfl) rfl, gTb_1 (List.mem_of_getElem? (i := 4) rfl) rfl, ⟨by decide +kernel, by decide +kernel⟩, by decide +kernel, by decide⟩, gTb_3 (List.mem_of_getElem? (i := 224) rfl) rfl, gPr_2 (q := (⟨"FigureTexts$Reader", "term", "()I"⟩, _)) (List.mem_of_getElem? (i := 2) rfl)⟩
set_option maxRecDepth 20000 in
theorem ck_X5_205 : gCalV RX5 205 yX5_one cX5_one 5 (some .int) 0 := ⟨⟨gTb_3 (List.mem_of_getElem? (i := 226) rfl) rfl, gTb_3 (List.mem_of_getElem? (i := 229) rfl) rfl, gTb_1 (List.mem_of_getElem? (i := 4) rfl) rfl, ⟨by decide +kernel, by decide +kernel⟩, by decide +kernel, by decide⟩, gTb_3 (List.mem_of_getElem? (i := 228) rfl) rfl, gPr_2 (q := (⟨"FigureTexts$Reader", "one", "()I"⟩, _)) (List.mem_of_getElem? (i := 3) rfl)⟩
set_option maxRecDepth 20000 in
theorem ck_X5_208 : gCalV RX5 208 yX5_core cX5_core 2 (some .int) 0 := ⟨⟨gTb_3 (List.mem_of_getElem? (i := 234) rfl) rfl, gTb_3 (List.mem_of_getElem? (i := 237) rfl) rfl, gTb_1 (List.mem_of_getElem? (i := 4) rfl) rfl, ⟨by decide +kernel, by decide +kernel⟩, by decide +kernel, by decide⟩, gTb_3 (List.mem_of_getElem? (i := 236) rfl) rfl, gPr_2 (q := (⟨"FigureTexts$Reader", "core", "()I"⟩, _)) (List.mem_of_getElem? (i := 4) rfl)⟩
set_option maxRecDepth 20000 in
theorem ck_X5_211 : gCalV RX5 211 yX5_digitsValue cX5_digitsValue 3 (some .int) 0 := ⟨⟨gTb_4 (List.mem_of_getElem? (i := 2) rfl) rfl, gTb_4 (List.mem_of_getElem? (i := 5) rfl) rfl, gTb_1 (List.mem_of_getElem? (i := 4) rfl) rfl, ⟨by decide +kernel, by decide +kernel⟩, by decide +kernel, by decide⟩, gTb_4 (List.mem_of_getElem? (i := 4) rfl) rfl, gPr_2 (q := (⟨"FigureTexts$Reader", "digitsValue", "()I"⟩, _)) (List.mem_of_getElem? (i := 6) rfl)⟩
set_option maxRecDepth 20000 in
theorem ck_X5_214 : gCalV RX5 214 yX5_named cX5_named 4 (some .int) 0 := ⟨⟨gTb_4 (List.mem_of_getElem? (i := 6) rfl) rfl, gTb_4 (List.mem_of_getElem? (i := 9) rfl) rfl, gTb_1 (List.mem_of_getElem? (i := 4) rfl) rfl, ⟨by decide +kernel, by decide +kernel⟩, by decide +kernel, by decide⟩, gTb_4 (List.mem_of_getElem? (i := 8) rfl) rfl, gPr_2 (q := (⟨"FigureTexts$Reader", "named", "()I"⟩, _)) (List.mem_of_getElem? (i := 7) rfl)⟩
set_option maxRecDepth 20000 in
theorem ck_X5_217 : gCalV RX5 217 yX5_called cX5_called 7 (some .int) 2 := ⟨⟨gTb_4 (List.mem_of_getElem? (i := 10) rfl) rfl, gTb_4 (List.mem_of_getElem? (i := 13) rfl) rfl, gTb_1 (List.mem_of_getElem? (i := 4) rfl) rfl, ⟨by decide +kernel, by decide +kernel⟩, by decide +kernel, by decide⟩, gTb_4 (List.mem_of_getElem? (i := 12) rfl) rfl, gPr_2 (q := (⟨"FigureTexts$Reader", "called", "(II)I"⟩, _)) (List.mem_of_getElem? (i := 8) rfl)⟩
set_option maxRecDepth 20000 in
theorem ck_X5_220 : gCalV RX5 220 yX1_paramsOf cX1_paramsOf 2 (some .int) 1 := ⟨⟨gTb_4 (List.mem_of_getElem? (i := 14) rfl) rfl, gTb_4 (List.mem_of_getElem? (i := 17) rfl) rfl, gTb_1 (List.mem_of_getElem? (i := 3) rfl) rfl, ⟨by decide +kernel, by decide +kernel⟩, by decide +kernel, by decide⟩, gTb_4 (List.mem_of_getElem? (i := 15) rfl) rfl, gTb_4 (List.mem_of_getElem? (i := 16) rfl) rfl⟩
set_option maxRecDepth 20000 in
theorem ck_X5_223 : gCalN RX5 223 yX12_inside cX12_inside 2 (some .boolean) 2 "FigureTexts" := ⟨⟨gTb_2 (List.mem_of_getElem? (i := 207) rfl) rfl, gTb_1 (List.mem_of_getElem? (i := 1) rfl) rfl, ⟨by decide +kernel, by decide +kernel⟩, by decide +kernel, by decide⟩, gTb_2 (List.mem_of_getElem? (i := 206) rfl) rfl⟩
theorem cw_X5_223 : Cond.methodLinkNest RX5 223 yX12_inside "FigureTexts" ∈ cNest := List.mem_of_getElem? (i := 8) rfl
set_option maxRecDepth 20000 in
theorem ck_X5_232 : gCalV RX5 232 yX5_arguments cX5_arguments 6 (some .int) 1 := ⟨⟨gTb_4 (List.mem_of_getElem? (i := 20) rfl) rfl, gTb_4 (List.mem_of_getElem? (i := 23) rfl) rfl, gTb_1 (List.mem_of_getElem? (i := 4) rfl) rfl, ⟨by decide +kernel, by decide +kernel⟩, by decide +kernel, by decide⟩, gTb_4 (List.mem_of_getElem? (i := 22) rfl) rfl, gPr_2 (q := (⟨"FigureTexts$Reader", "arguments", "(I)I"⟩, _)) (List.mem_of_getElem? (i := 9) rfl)⟩
theorem fk_X6_9 : Cond.fieldLink RX6 9 "FigureTexts$Reckoner" "failure" "I" ∈ gTb := gTb_1 (List.mem_of_getElem? (i := 194) rfl) rfl
set_option maxRecDepth 20000 in
theorem ck_X6_19 : gCalS RX6 19 yX6_top cX6_top 2 (some .long) 1 := ⟨⟨gTb_5 (List.mem_of_getElem? (i := 36) rfl) rfl, gTb_5 (List.mem_of_getElem? (i := 38) rfl) rfl, gTb_1 (List.mem_of_getElem? (i := 6) rfl) rfl, ⟨by decide +kernel, by decide +kernel⟩, by decide +kernel, by decide⟩, gTb_5 (List.mem_of_getElem? (i := 37) rfl) rfl⟩
set_option maxRecDepth 20000 in
theorem ck_X6_23 : gCalS RX6 23 yX6_bottom cX6_bottom 2 (some .long) 1 := ⟨⟨gTb_5 (List.mem_of_getElem? (i := 39) rfl) rfl, gTb_5 (List.mem_of_getElem? (i := 9) rfl) rfl, gTb_1 (List.mem_of_getElem? (i := 6) rfl) rfl, ⟨by decide +kernel, by decide +kernel⟩, by decide +kernel, by decide⟩, gTb_5 (List.mem_of_getElem? (i := 8) rfl) rfl⟩
set_option maxRecDepth 20000 in
theorem ck_X6_32 : gCalV RX6 32 yX6_reduced cX6_reduced 13 (some .long) 2 := ⟨⟨gTb_5 (List.mem_of_getElem? (i := 40) rfl) rfl, gTb_4 (List.mem_of_getElem? (i := 84) rfl) rfl, gTb_1 (List.mem_of_getElem? (i := 6) rfl) rfl, ⟨by decide +kernel, by decide +kernel⟩, by decide +kernel, by decide⟩, gTb_4 (List.mem_of_getElem? (i := 82) rfl) rfl, gTb_4 (List.mem_of_getElem? (i := 83) rfl) rfl⟩
set_option maxRecDepth 20000 in
theorem ck_X6_40 : gCalS RX6 40 yX6_wholeRoot cX6_wholeRoot 5 (some .long) 1 := ⟨⟨gTb_5 (List.mem_of_getElem? (i := 148) rfl) rfl, gTb_5 (List.mem_of_getElem? (i := 150) rfl) rfl, gTb_1 (List.mem_of_getElem? (i := 6) rfl) rfl, ⟨by decide +kernel, by decide +kernel⟩, by decide +kernel, by decide⟩, gTb_5 (List.mem_of_getElem? (i := 149) rfl) rfl⟩
set_option maxRecDepth 20000 in
theorem ck_X6_43 : gCalV RX6 43 yX6_fail cX6_fail 2 none 1 := ⟨⟨gTb_5 (List.mem_of_getElem? (i := 152) rfl) rfl, gTb_4 (List.mem_of_getElem? (i := 234) rfl) rfl, gTb_1 (List.mem_of_getElem? (i := 6) rfl) rfl, ⟨by decide +kernel, by decide +kernel⟩, by decide +kernel, by decide⟩, gTb_4 (List.mem_of_getElem? (i := 232) rfl) rfl, gTb_4 (List.mem_of_getElem? (i := 233) rfl) rfl⟩
theorem fk_X7_11 : Cond.fieldLink RX7 11 "FigureTexts$Runner" "node" "[I" ∈ gTb := gTb_2 (List.mem_of_getElem? (i := 107) rfl) rfl
theorem fk_X7_15 : Cond.fieldLink RX7 15 "FigureTexts$Runner" "cursor" "[I" ∈ gTb := gTb_2 (List.mem_of_getElem? (i := 108) rfl) rfl
theorem fk_X7_18 : Cond.fieldLink RX7 18 "FigureTexts$Runner" "floor" "[I" ∈ gTb := gTb_2 (List.mem_of_getElem? (i := 109) rfl) rfl
theorem fk_X7_21 : Cond.fieldLink RX7 21 "FigureTexts$Runner" "inBlock" "[Z" ∈ gTb := gTb_2 (List.mem_of_getElem? (i := 110) rfl) rfl
theorem fk_X7_25 : Cond.fieldLink RX7 25 "FigureTexts$Runner" "turns" "[I" ∈ gTb := gTb_2 (List.mem_of_getElem? (i := 111) rfl) rfl
theorem fk_X7_28 : Cond.fieldLink RX7 28 "FigureTexts$Runner" "top" "I" ∈ gTb := gTb_2 (List.mem_of_getElem? (i := 112) rfl) rfl
theorem fk_X7_32 : Cond.fieldLink RX7 32 "FigureTexts$Runner" "value" "[I" ∈ gTb := gTb_2 (List.mem_of_getElem? (i := 113) rfl) rfl
theorem fk_X7_35 : Cond.fieldLink RX7 35 "FigureTexts$Runner" "values" "I" ∈ gTb := gTb_2 (List.mem_of_getElem? (i := 114) rfl) rfl
theorem fk_X7_38 : Cond.fieldLink RX7 38 "FigureTexts$Runner" "holds" "[I" ∈ gTb := gTb_2 (List.mem_of_getElem? (i := 115) rfl) rfl
theorem fk_X7_41 : Cond.fieldLink RX7 41 "FigureTexts$Runner" "frame" "I" ∈ gTb := gTb_2 (List.mem_of_getElem? (i := 116) rfl) rfl
theorem fk_X7_44 : Cond.fieldLink RX7 44 "FigureTexts$Runner" "figure" "LFigureTexts$Figure;" ∈ gTb := gTb_2 (List.mem_of_getElem? (i := 106) rfl) rfl
theorem fk_X7_48 : Cond.fieldLink RX7 48 "FigureTexts$Runner" "shop" "LFigureTexts$Workshop;" ∈ gTb := gTb_2 (List.mem_of_getElem? (i := 104) rfl) rfl
theorem fk_X7_52 : Cond.fieldLink RX7 52 "FigureTexts$Runner" "told" "LFigureTexts$Told;" ∈ gTb := gTb_2 (List.mem_of_getElem? (i := 105) rfl) rfl
set_option maxRecDepth 20000 in
theorem ck_X7_56 : gCalV RX7 56 yX9_clear cX9_clear 1 none 0 := ⟨⟨gTb_4 (List.mem_of_getElem? (i := 113) rfl) rfl, gTb_4 (List.mem_of_getElem? (i := 55) rfl) rfl, gTb_1 (List.mem_of_getElem? (i := 9) rfl) rfl, ⟨by decide +kernel, by decide +kernel⟩, by decide +kernel, by decide⟩, gTb_4 (List.mem_of_getElem? (i := 53) rfl) rfl, gTb_4 (List.mem_of_getElem? (i := 54) rfl) rfl⟩
theorem fk_X7_61 : Cond.fieldLink RX7 61 "FigureTexts$Workshop" "things" "LFigureTexts$Things;" ∈ gTb := gTb_2 (List.mem_of_getElem? (i := 69) rfl) rfl
set_option maxRecDepth 20000 in
theorem ck_X7_67 : gCalV RX7 67 yX8_clear cX8_clear 1 none 0 := ⟨⟨gTb_4 (List.mem_of_getElem? (i := 114) rfl) rfl, gTb_4 (List.mem_of_getElem? (i := 59) rfl) rfl, gTb_1 (List.mem_of_getElem? (i := 7) rfl) rfl, ⟨by decide +kernel, by decide +kernel⟩, by decide +kernel, by decide⟩, gTb_4 (List.mem_of_getElem? (i := 57) rfl) rfl, gTb_4 (List.mem_of_getElem? (i := 58) rfl) rfl⟩
theorem fk_X7_70 : Cond.fieldLink RX7 70 "FigureTexts$Workshop" "frees" "LFigureTexts$Frees;" ∈ gTb := gTb_2 (List.mem_of_getElem? (i := 71) rfl) rfl
theorem fk_X7_74 : Cond.fieldLink RX7 74 "FigureTexts$Frees" "came" "I" ∈ gTb := gTb_1 (List.mem_of_getElem? (i := 238) rfl) rfl
set_option maxRecDepth 20000 in
theorem ck_X7_79 : gCalV RX7 79 yX7_emptyNames cX7_emptyNames 2 none 0 := ⟨⟨gTb_4 (List.mem_of_getElem? (i := 115) rfl) rfl, gTb_4 (List.mem_of_getElem? (i := 118) rfl) rfl, gTb_1 (List.mem_of_getElem? (i := 10) rfl) rfl, ⟨by decide +kernel, by decide +kernel⟩, by decide +kernel, by decide⟩, gTb_4 (List.mem_of_getElem? (i := 117) rfl) rfl, gPr_2 (q := (⟨"FigureTexts$Runner", "emptyNames", "()V"⟩, _)) (List.mem_of_getElem? (i := 13) rfl)⟩
set_option maxRecDepth 20000 in
theorem ck_X7_82 : gCalV RX7 82 yX7_push cX7_push 2 none 1 := ⟨⟨gTb_4 (List.mem_of_getElem? (i := 124) rfl) rfl, gTb_4 (List.mem_of_getElem? (i := 127) rfl) rfl, gTb_1 (List.mem_of_getElem? (i := 10) rfl) rfl, ⟨by decide +kernel, by decide +kernel⟩, by decide +kernel, by decide⟩, gTb_4 (List.mem_of_getElem? (i := 126) rfl) rfl, gPr_2 (q := (⟨"FigureTexts$Runner", "push", "(I)V"⟩, _)) (List.mem_of_getElem? (i := 15) rfl)⟩
theorem fk_X7_86 : Cond.fieldLink RX7 86 "FigureTexts$Figure" "firstDeed" "I" ∈ gTb := gTb_1 (List.mem_of_getElem? (i := 78) rfl) rfl
set_option maxRecDepth 20000 in
theorem ck_X7_92 : gCalN RX7 92 yX12_inside cX12_inside 2 (some .boolean) 2 "FigureTexts" := ⟨⟨gTb_2 (List.mem_of_getElem? (i := 207) rfl) rfl, gTb_1 (List.mem_of_getElem? (i := 1) rfl) rfl, ⟨by decide +kernel, by decide +kernel⟩, by decide +kernel, by decide⟩, gTb_2 (List.mem_of_getElem? (i := 206) rfl) rfl⟩
theorem cw_X7_92 : Cond.methodLinkNest RX7 92 yX12_inside "FigureTexts" ∈ cNest := List.mem_of_getElem? (i := 10) rfl
theorem fk_X7_96 : Cond.fieldLink RX7 96 "FigureTexts$Told" "spent" "Z" ∈ gTb := gTb_2 (List.mem_of_getElem? (i := 37) rfl) rfl
set_option maxRecDepth 20000 in
theorem ck_X7_100 : gCalV RX7 100 yX1_nextOf cX1_nextOf 2 (some .int) 1 := ⟨⟨gTb_4 (List.mem_of_getElem? (i := 133) rfl) rfl, gTb_4 (List.mem_of_getElem? (i := 136) rfl) rfl, gTb_1 (List.mem_of_getElem? (i := 3) rfl) rfl, ⟨by decide +kernel, by decide +kernel⟩, by decide +kernel, by decide⟩, gTb_4 (List.mem_of_getElem? (i := 134) rfl) rfl, gTb_4 (List.mem_of_getElem? (i := 135) rfl) rfl⟩
set_option maxRecDepth 20000 in
theorem ck_X7_104 : gCalV RX7 104 yX7_enter cX7_enter 3 none 1 := ⟨⟨gTb_4 (List.mem_of_getElem? (i := 137) rfl) rfl, gTb_4 (List.mem_of_getElem? (i := 140) rfl) rfl, gTb_1 (List.mem_of_getElem? (i := 10) rfl) rfl, ⟨by decide +kernel, by decide +kernel⟩, by decide +kernel, by decide⟩, gTb_4 (List.mem_of_getElem? (i := 139) rfl) rfl, gPr_3 (q := (⟨"FigureTexts$Runner", "enter", "(I)V"⟩, _)) (List.mem_of_getElem? (i := 0) rfl)⟩
set_option maxRecDepth 20000 in
theorem ck_X7_107 : gCalV RX7 107 yX1_typeOf cX1_typeOf 2 (some .int) 1 := ⟨⟨gTb_4 (List.mem_of_getElem? (i := 145) rfl) rfl, gTb_4 (List.mem_of_getElem? (i := 148) rfl) rfl, gTb_1 (List.mem_of_getElem? (i := 3) rfl) rfl, ⟨by decide +kernel, by decide +kernel⟩, by decide +kernel, by decide⟩, gTb_4 (List.mem_of_getElem? (i := 146) rfl) rfl, gTb_4 (List.mem_of_getElem? (i := 147) rfl) rfl⟩
set_option maxRecDepth 20000 in
theorem ck_X7_110 : gCalV RX7 110 yX1_dataOf cX1_dataOf 2 (some .int) 1 := ⟨⟨gTb_4 (List.mem_of_getElem? (i := 149) rfl) rfl, gTb_4 (List.mem_of_getElem? (i := 152) rfl) rfl, gTb_1 (List.mem_of_getElem? (i := 3) rfl) rfl, ⟨by decide +kernel, by decide +kernel⟩, by decide +kernel, by decide⟩, gTb_4 (List.mem_of_getElem? (i := 150) rfl) rfl, gTb_4 (List.mem_of_getElem? (i := 151) rfl) rfl⟩
set_option maxRecDepth 20000 in
theorem ck_X7_117 : gCalV RX7 117 yX11_use cX11_use 7 (some .int) 3 := ⟨⟨gTb_4 (List.mem_of_getElem? (i := 219) rfl) rfl, gTb_4 (List.mem_of_getElem? (i := 222) rfl) rfl, gTb_1 (List.mem_of_getElem? (i := 11) rfl) rfl, ⟨by decide +kernel, by decide +kernel⟩, by decide +kernel, by decide⟩, gTb_4 (List.mem_of_getElem? (i := 220) rfl) rfl, gTb_4 (List.mem_of_getElem? (i := 221) rfl) rfl⟩
set_option maxRecDepth 20000 in
theorem ck_X7_121 : gCalV RX7 121 yX7_endPart cX7_endPart 2 none 1 := ⟨⟨gTb_5 (List.mem_of_getElem? (i := 228) rfl) rfl, gTb_5 (List.mem_of_getElem? (i := 231) rfl) rfl, gTb_1 (List.mem_of_getElem? (i := 10) rfl) rfl, ⟨by decide +kernel, by decide +kernel⟩, by decide +kernel, by decide⟩, gTb_5 (List.mem_of_getElem? (i := 230) rfl) rfl, gPr_5 (q := (⟨"FigureTexts$Runner", "endPart", "(I)V"⟩, _)) (List.mem_of_getElem? (i := 3) rfl)⟩
set_option maxRecDepth 20000 in
theorem ck_X7_124 : gCalV RX7 124 yX7_finish cX7_finish 3 none 1 := ⟨⟨gTb_5 (List.mem_of_getElem? (i := 232) rfl) rfl, gTb_5 (List.mem_of_getElem? (i := 235) rfl) rfl, gTb_1 (List.mem_of_getElem? (i := 10) rfl) rfl, ⟨by decide +kernel, by decide +kernel⟩, by decide +kernel, by decide⟩, gTb_5 (List.mem_of_getElem? (i := 234) rfl) rfl, gPr_5 (q := (⟨"FigureTexts$Runner", "finish", "(I)V"⟩, _)) (List.mem_of_getElem? (i := 4) rfl)⟩
set_option maxRecDepth 20000 in
theorem ck_X7_127 : gCalV RX7 127 yX7_hold cX7_hold 4 none 2 := ⟨⟨gTb_4 (List.mem_of_getElem? (i := 119) rfl) rfl, gTb_4 (List.mem_of_getElem? (i := 122) rfl) rfl, gTb_1 (List.mem_of_getElem? (i := 10) rfl) rfl, ⟨by decide +kernel, by decide +kernel⟩, by decide +kernel, by decide⟩, gTb_4 (List.mem_of_getElem? (i := 121) rfl) rfl, gPr_2 (q := (⟨"FigureTexts$Runner", "hold", "(II)V"⟩, _)) (List.mem_of_getElem? (i := 14) rfl)⟩
set_option maxRecDepth 20000 in
theorem ck_X7_131 : gCalV RX7 131 yX1_firstOf cX1_firstOf 2 (some .int) 1 := ⟨⟨gTb_4 (List.mem_of_getElem? (i := 128) rfl) rfl, gTb_4 (List.mem_of_getElem? (i := 131) rfl) rfl, gTb_1 (List.mem_of_getElem? (i := 3) rfl) rfl, ⟨by decide +kernel, by decide +kernel⟩, by decide +kernel, by decide⟩, gTb_4 (List.mem_of_getElem? (i := 129) rfl) rfl, gTb_4 (List.mem_of_getElem? (i := 130) rfl) rfl⟩
set_option maxRecDepth 20000 in
theorem ck_X7_134 : gCalV RX7 134 yX9_goOn cX9_goOn 1 (some .boolean) 0 := ⟨⟨gTb_4 (List.mem_of_getElem? (i := 141) rfl) rfl, gTb_4 (List.mem_of_getElem? (i := 144) rfl) rfl, gTb_1 (List.mem_of_getElem? (i := 9) rfl) rfl, ⟨by decide +kernel, by decide +kernel⟩, by decide +kernel, by decide⟩, gTb_4 (List.mem_of_getElem? (i := 142) rfl) rfl, gTb_4 (List.mem_of_getElem? (i := 143) rfl) rfl⟩
set_option maxRecDepth 20000 in
theorem ck_X7_138 : gCalS RX7 138 yX6_whole cX6_whole 1 (some .long) 1 := ⟨⟨gTb_4 (List.mem_of_getElem? (i := 153) rfl) rfl, gTb_4 (List.mem_of_getElem? (i := 155) rfl) rfl, gTb_1 (List.mem_of_getElem? (i := 6) rfl) rfl, ⟨by decide +kernel, by decide +kernel⟩, by decide +kernel, by decide⟩, gTb_4 (List.mem_of_getElem? (i := 154) rfl) rfl⟩
set_option maxRecDepth 20000 in
theorem ck_X7_144 : gCalV RX7 144 yX8_addNumber cX8_addNumber 5 (some .int) 2 := ⟨⟨gTb_4 (List.mem_of_getElem? (i := 156) rfl) rfl, gTb_4 (List.mem_of_getElem? (i := 159) rfl) rfl, gTb_1 (List.mem_of_getElem? (i := 7) rfl) rfl, ⟨by decide +kernel, by decide +kernel⟩, by decide +kernel, by decide⟩, gTb_4 (List.mem_of_getElem? (i := 157) rfl) rfl, gTb_4 (List.mem_of_getElem? (i := 158) rfl) rfl⟩
set_option maxRecDepth 20000 in
theorem ck_X7_148 : gCalV RX7 148 yX7_pushValue cX7_pushValue 2 none 1 := ⟨⟨gTb_4 (List.mem_of_getElem? (i := 169) rfl) rfl, gTb_4 (List.mem_of_getElem? (i := 172) rfl) rfl, gTb_1 (List.mem_of_getElem? (i := 10) rfl) rfl, ⟨by decide +kernel, by decide +kernel⟩, by decide +kernel, by decide⟩, gTb_4 (List.mem_of_getElem? (i := 171) rfl) rfl, gPr_3 (q := (⟨"FigureTexts$Runner", "pushValue", "(I)V"⟩, _)) (List.mem_of_getElem? (i := 1) rfl)⟩
set_option maxRecDepth 20000 in
theorem ck_X7_151 : gCalV RX7 151 yX7_heldBy cX7_heldBy 3 (some .int) 1 := ⟨⟨gTb_4 (List.mem_of_getElem? (i := 173) rfl) rfl, gTb_4 (List.mem_of_getElem? (i := 176) rfl) rfl, gTb_1 (List.mem_of_getElem? (i := 10) rfl) rfl, ⟨by decide +kernel, by decide +kernel⟩, by decide +kernel, by decide⟩, gTb_4 (List.mem_of_getElem? (i := 175) rfl) rfl, gPr_3 (q := (⟨"FigureTexts$Runner", "heldBy", "(I)I"⟩, _)) (List.mem_of_getElem? (i := 2) rfl)⟩
set_option maxRecDepth 20000 in
theorem ck_X7_154 : gCalV RX7 154 yX9_isFullOf cX9_isFullOf 2 (some .boolean) 1 := ⟨⟨gTb_4 (List.mem_of_getElem? (i := 177) rfl) rfl, gTb_4 (List.mem_of_getElem? (i := 180) rfl) rfl, gTb_1 (List.mem_of_getElem? (i := 9) rfl) rfl, ⟨by decide +kernel, by decide +kernel⟩, by decide +kernel, by decide⟩, gTb_4 (List.mem_of_getElem? (i := 178) rfl) rfl, gTb_4 (List.mem_of_getElem? (i := 179) rfl) rfl⟩
set_option maxRecDepth 20000 in
theorem ck_X7_158 : gCalV RX7 158 yX7_fallDown cX7_fallDown 3 none 1 := ⟨⟨gTb_4 (List.mem_of_getElem? (i := 181) rfl) rfl, gTb_4 (List.mem_of_getElem? (i := 184) rfl) rfl, gTb_1 (List.mem_of_getElem? (i := 10) rfl) rfl, ⟨by decide +kernel, by decide +kernel⟩, by decide +kernel, by decide⟩, gTb_4 (List.mem_of_getElem? (i := 183) rfl) rfl, gPr_3 (q := (⟨"FigureTexts$Runner", "fallDown", "(I)V"⟩, _)) (List.mem_of_getElem? (i := 3) rfl)⟩
theorem fk_X7_161 : Cond.fieldLink RX7 161 "FigureTexts$Workshop" "reckoner" "LFigureTexts$Reckoner;" ∈ gTb := gTb_2 (List.mem_of_getElem? (i := 67) rfl) rfl
theorem fk_X7_165 : Cond.fieldLink RX7 165 "FigureTexts$Reckoner" "failure" "I" ∈ gTb := gTb_1 (List.mem_of_getElem? (i := 197) rfl) rfl
set_option maxRecDepth 20000 in
theorem ck_X7_168 : gCalV RX7 168 yX7_drop cX7_drop 1 none 0 := ⟨⟨gTb_4 (List.mem_of_getElem? (i := 194) rfl) rfl, gTb_4 (List.mem_of_getElem? (i := 197) rfl) rfl, gTb_1 (List.mem_of_getElem? (i := 10) rfl) rfl, ⟨by decide +kernel, by decide +kernel⟩, by decide +kernel, by decide⟩, gTb_4 (List.mem_of_getElem? (i := 196) rfl) rfl, gPr_3 (q := (⟨"FigureTexts$Runner", "drop", "()V"⟩, _)) (List.mem_of_getElem? (i := 4) rfl)⟩
set_option maxRecDepth 20000 in
theorem ck_X7_171 : gCalV RX7 171 yX7_valueAt cX7_valueAt 3 (some .int) 1 := ⟨⟨gTb_5 (List.mem_of_getElem? (i := 236) rfl) rfl, gTb_5 (List.mem_of_getElem? (i := 239) rfl) rfl, gTb_1 (List.mem_of_getElem? (i := 10) rfl) rfl, ⟨by decide +kernel, by decide +kernel⟩, by decide +kernel, by decide⟩, gTb_5 (List.mem_of_getElem? (i := 238) rfl) rfl, gPr_5 (q := (⟨"FigureTexts$Runner", "valueAt", "(I)I"⟩, _)) (List.mem_of_getElem? (i := 5) rfl)⟩
set_option maxRecDepth 20000 in
theorem ck_X7_174 : gCalV RX7 174 yX11_between cX11_between 6 (some .int) 3 := ⟨⟨gTb_6 (List.mem_of_getElem? (i := 0) rfl) rfl, gTb_6 (List.mem_of_getElem? (i := 3) rfl) rfl, gTb_1 (List.mem_of_getElem? (i := 11) rfl) rfl, ⟨by decide +kernel, by decide +kernel⟩, by decide +kernel, by decide⟩, gTb_6 (List.mem_of_getElem? (i := 1) rfl) rfl, gTb_6 (List.mem_of_getElem? (i := 2) rfl) rfl⟩
set_option maxRecDepth 20000 in
theorem ck_X7_178 : gCalV RX7 178 yX11_negated cX11_negated 2 (some .int) 1 := ⟨⟨gTb_6 (List.mem_of_getElem? (i := 8) rfl) rfl, gTb_6 (List.mem_of_getElem? (i := 11) rfl) rfl, gTb_1 (List.mem_of_getElem? (i := 11) rfl) rfl, ⟨by decide +kernel, by decide +kernel⟩, by decide +kernel, by decide⟩, gTb_6 (List.mem_of_getElem? (i := 9) rfl) rfl, gTb_6 (List.mem_of_getElem? (i := 10) rfl) rfl⟩
set_option maxRecDepth 20000 in
theorem ck_X7_181 : gCalV RX7 181 yX11_picked cX11_picked 3 (some .int) 2 := ⟨⟨gTb_6 (List.mem_of_getElem? (i := 16) rfl) rfl, gTb_6 (List.mem_of_getElem? (i := 19) rfl) rfl, gTb_1 (List.mem_of_getElem? (i := 11) rfl) rfl, ⟨by decide +kernel, by decide +kernel⟩, by decide +kernel, by decide⟩, gTb_6 (List.mem_of_getElem? (i := 17) rfl) rfl, gTb_6 (List.mem_of_getElem? (i := 18) rfl) rfl⟩
set_option maxRecDepth 20000 in
theorem ck_X7_185 : gCalV RX7 185 yX7_finishCall cX7_finishCall 3 none 1 := ⟨⟨gTb_6 (List.mem_of_getElem? (i := 33) rfl) rfl, gTb_6 (List.mem_of_getElem? (i := 36) rfl) rfl, gTb_1 (List.mem_of_getElem? (i := 10) rfl) rfl, ⟨by decide +kernel, by decide +kernel⟩, by decide +kernel, by decide⟩, gTb_6 (List.mem_of_getElem? (i := 35) rfl) rfl, gPr_5 (q := (⟨"FigureTexts$Runner", "finishCall", "(I)V"⟩, _)) (List.mem_of_getElem? (i := 8) rfl)⟩
set_option maxRecDepth 20000 in
theorem ck_X7_188 : gCalV RX7 188 yX11_store cX11_store 4 none 3 := ⟨⟨gTb_6 (List.mem_of_getElem? (i := 42) rfl) rfl, gTb_6 (List.mem_of_getElem? (i := 45) rfl) rfl, gTb_1 (List.mem_of_getElem? (i := 11) rfl) rfl, ⟨by decide +kernel, by decide +kernel⟩, by decide +kernel, by decide⟩, gTb_6 (List.mem_of_getElem? (i := 43) rfl) rfl, gTb_6 (List.mem_of_getElem? (i := 44) rfl) rfl⟩
set_option maxRecDepth 20000 in
theorem ck_X7_192 : gCalV RX7 192 yX7_endDeed cX7_endDeed 2 none 1 := ⟨⟨gTb_6 (List.mem_of_getElem? (i := 51) rfl) rfl, gTb_6 (List.mem_of_getElem? (i := 54) rfl) rfl, gTb_1 (List.mem_of_getElem? (i := 10) rfl) rfl, ⟨by decide +kernel, by decide +kernel⟩, by decide +kernel, by decide⟩, gTb_6 (List.mem_of_getElem? (i := 53) rfl) rfl, gPr_5 (q := (⟨"FigureTexts$Runner", "endDeed", "(I)V"⟩, _)) (List.mem_of_getElem? (i := 9) rfl)⟩
set_option maxRecDepth 20000 in
theorem ck_X7_195 : gCalV RX7 195 yX7_finishIf cX7_finishIf 3 none 1 := ⟨⟨gTb_6 (List.mem_of_getElem? (i := 55) rfl) rfl, gTb_6 (List.mem_of_getElem? (i := 58) rfl) rfl, gTb_1 (List.mem_of_getElem? (i := 10) rfl) rfl, ⟨by decide +kernel, by decide +kernel⟩, by decide +kernel, by decide⟩, gTb_6 (List.mem_of_getElem? (i := 57) rfl) rfl, gPr_5 (q := (⟨"FigureTexts$Runner", "finishIf", "(I)V"⟩, _)) (List.mem_of_getElem? (i := 10) rfl)⟩
set_option maxRecDepth 20000 in
theorem ck_X7_198 : gCalV RX7 198 yX7_finishTimes cX7_finishTimes 3 none 1 := ⟨⟨gTb_6 (List.mem_of_getElem? (i := 65) rfl) rfl, gTb_6 (List.mem_of_getElem? (i := 68) rfl) rfl, gTb_1 (List.mem_of_getElem? (i := 10) rfl) rfl, ⟨by decide +kernel, by decide +kernel⟩, by decide +kernel, by decide⟩, gTb_6 (List.mem_of_getElem? (i := 67) rfl) rfl, gPr_5 (q := (⟨"FigureTexts$Runner", "finishTimes", "(I)V"⟩, _)) (List.mem_of_getElem? (i := 11) rfl)⟩
set_option maxRecDepth 20000 in
theorem ck_X7_201 : gCalV RX7 201 yX7_finishState cX7_finishState 2 none 1 := ⟨⟨gTb_6 (List.mem_of_getElem? (i := 70) rfl) rfl, gTb_6 (List.mem_of_getElem? (i := 73) rfl) rfl, gTb_1 (List.mem_of_getElem? (i := 10) rfl) rfl, ⟨by decide +kernel, by decide +kernel⟩, by decide +kernel, by decide⟩, gTb_6 (List.mem_of_getElem? (i := 72) rfl) rfl, gPr_5 (q := (⟨"FigureTexts$Runner", "finishState", "(I)V"⟩, _)) (List.mem_of_getElem? (i := 12) rfl)⟩
set_option maxRecDepth 20000 in
theorem ck_X7_204 : gCalV RX7 204 yX7_finishDraw cX7_finishDraw 2 none 1 := ⟨⟨gTb_6 (List.mem_of_getElem? (i := 74) rfl) rfl, gTb_6 (List.mem_of_getElem? (i := 77) rfl) rfl, gTb_1 (List.mem_of_getElem? (i := 10) rfl) rfl, ⟨by decide +kernel, by decide +kernel⟩, by decide +kernel, by decide⟩, gTb_6 (List.mem_of_getElem? (i := 76) rfl) rfl, gPr_5 (q := (⟨"FigureTexts$Runner", "finishDraw", "(I)V"⟩, _)) (List.mem_of_getElem? (i := 13) rfl)⟩
set_option maxRecDepth 20000 in
theorem ck_X7_207 : gCalV RX7 207 yX7_giveBack cX7_giveBack 2 none 1 := ⟨⟨gTb_4 (List.mem_of_getElem? (i := 210) rfl) rfl, gTb_4 (List.mem_of_getElem? (i := 213) rfl) rfl, gTb_1 (List.mem_of_getElem? (i := 10) rfl) rfl, ⟨by decide +kernel, by decide +kernel⟩, by decide +kernel, by decide⟩, gTb_4 (List.mem_of_getElem? (i := 212) rfl) rfl, gPr_3 (q := (⟨"FigureTexts$Runner", "giveBack", "(I)V"⟩, _)) (List.mem_of_getElem? (i := 6) rfl)⟩
set_option maxRecDepth 20000 in
theorem ck_X7_210 : gCalV RX7 210 yX7_leaveMacro cX7_leaveMacro 2 none 1 := ⟨⟨gTb_4 (List.mem_of_getElem? (i := 214) rfl) rfl, gTb_4 (List.mem_of_getElem? (i := 217) rfl) rfl, gTb_1 (List.mem_of_getElem? (i := 10) rfl) rfl, ⟨by decide +kernel, by decide +kernel⟩, by decide +kernel, by decide⟩, gTb_4 (List.mem_of_getElem? (i := 216) rfl) rfl, gPr_3 (q := (⟨"FigureTexts$Runner", "leaveMacro", "(I)V"⟩, _)) (List.mem_of_getElem? (i := 7) rfl)⟩
set_option maxRecDepth 20000 in
theorem ck_X7_213 : gCalV RX7 213 yX1_paramsOf cX1_paramsOf 2 (some .int) 1 := ⟨⟨gTb_6 (List.mem_of_getElem? (i := 37) rfl) rfl, gTb_4 (List.mem_of_getElem? (i := 17) rfl) rfl, gTb_1 (List.mem_of_getElem? (i := 3) rfl) rfl, ⟨by decide +kernel, by decide +kernel⟩, by decide +kernel, by decide⟩, gTb_4 (List.mem_of_getElem? (i := 15) rfl) rfl, gTb_4 (List.mem_of_getElem? (i := 16) rfl) rfl⟩
set_option maxRecDepth 20000 in
theorem ck_X7_216 : gCalV RX7 216 yX1_macroBodyOf cX1_macroBodyOf 2 (some .int) 1 := ⟨⟨gTb_6 (List.mem_of_getElem? (i := 38) rfl) rfl, gTb_6 (List.mem_of_getElem? (i := 41) rfl) rfl, gTb_1 (List.mem_of_getElem? (i := 3) rfl) rfl, ⟨by decide +kernel, by decide +kernel⟩, by decide +kernel, by decide⟩, gTb_6 (List.mem_of_getElem? (i := 39) rfl) rfl, gTb_6 (List.mem_of_getElem? (i := 40) rfl) rfl⟩
set_option maxRecDepth 20000 in
theorem ck_X7_219 : gCalV RX7 219 yX7_enterBlock cX7_enterBlock 2 none 1 := ⟨⟨gTb_4 (List.mem_of_getElem? (i := 202) rfl) rfl, gTb_4 (List.mem_of_getElem? (i := 205) rfl) rfl, gTb_1 (List.mem_of_getElem? (i := 10) rfl) rfl, ⟨by decide +kernel, by decide +kernel⟩, by decide +kernel, by decide⟩, gTb_4 (List.mem_of_getElem? (i := 204) rfl) rfl, gPr_3 (q := (⟨"FigureTexts$Runner", "enterBlock", "(I)V"⟩, _)) (List.mem_of_getElem? (i := 5) rfl)⟩
set_option maxRecDepth 20000 in
theorem ck_X7_222 : gCalV RX7 222 yX11_accepts cX11_accepts 3 (some .boolean) 2 := ⟨⟨gTb_6 (List.mem_of_getElem? (i := 59) rfl) rfl, gTb_6 (List.mem_of_getElem? (i := 15) rfl) rfl, gTb_1 (List.mem_of_getElem? (i := 11) rfl) rfl, ⟨by decide +kernel, by decide +kernel⟩, by decide +kernel, by decide⟩, gTb_6 (List.mem_of_getElem? (i := 13) rfl) rfl, gTb_6 (List.mem_of_getElem? (i := 14) rfl) rfl⟩
set_option maxRecDepth 20000 in
theorem ck_X7_226 : gCalV RX7 226 yX8_partOf cX8_partOf 4 (some .long) 2 := ⟨⟨gTb_6 (List.mem_of_getElem? (i := 60) rfl) rfl, gTb_5 (List.mem_of_getElem? (i := 6) rfl) rfl, gTb_1 (List.mem_of_getElem? (i := 7) rfl) rfl, ⟨by decide +kernel, by decide +kernel⟩, by decide +kernel, by decide⟩, gTb_5 (List.mem_of_getElem? (i := 4) rfl) rfl, gTb_5 (List.mem_of_getElem? (i := 5) rfl) rfl⟩
set_option maxRecDepth 20000 in
theorem ck_X7_230 : gCalV RX7 230 yX1_bodyOf cX1_bodyOf 2 (some .int) 1 := ⟨⟨gTb_6 (List.mem_of_getElem? (i := 61) rfl) rfl, gTb_6 (List.mem_of_getElem? (i := 64) rfl) rfl, gTb_1 (List.mem_of_getElem? (i := 3) rfl) rfl, ⟨by decide +kernel, by decide +kernel⟩, by decide +kernel, by decide⟩, gTb_6 (List.mem_of_getElem? (i := 62) rfl) rfl, gTb_6 (List.mem_of_getElem? (i := 63) rfl) rfl⟩
set_option maxRecDepth 20000 in
theorem ck_X7_233 : gCalV RX7 233 yX1_otherOf cX1_otherOf 2 (some .int) 1 := ⟨⟨gTb_4 (List.mem_of_getElem? (i := 198) rfl) rfl, gTb_4 (List.mem_of_getElem? (i := 201) rfl) rfl, gTb_1 (List.mem_of_getElem? (i := 3) rfl) rfl, ⟨by decide +kernel, by decide +kernel⟩, by decide +kernel, by decide⟩, gTb_4 (List.mem_of_getElem? (i := 199) rfl) rfl, gTb_4 (List.mem_of_getElem? (i := 200) rfl) rfl⟩
set_option maxRecDepth 20000 in
theorem ck_X7_236 : gCalV RX7 236 yX8_wholeOf cX8_wholeOf 3 (some .int) 2 := ⟨⟨gTb_6 (List.mem_of_getElem? (i := 69) rfl) rfl, gTb_6 (List.mem_of_getElem? (i := 27) rfl) rfl, gTb_1 (List.mem_of_getElem? (i := 7) rfl) rfl, ⟨by decide +kernel, by decide +kernel⟩, by decide +kernel, by decide⟩, gTb_6 (List.mem_of_getElem? (i := 25) rfl) rfl, gTb_6 (List.mem_of_getElem? (i := 26) rfl) rfl⟩
set_option maxRecDepth 20000 in
theorem ck_X7_239 : gCalV RX7 239 yX9_addStated cX9_addStated 2 none 1 := ⟨⟨gTb_4 (List.mem_of_getElem? (i := 206) rfl) rfl, gTb_4 (List.mem_of_getElem? (i := 209) rfl) rfl, gTb_1 (List.mem_of_getElem? (i := 9) rfl) rfl, ⟨by decide +kernel, by decide +kernel⟩, by decide +kernel, by decide⟩, gTb_4 (List.mem_of_getElem? (i := 207) rfl) rfl, gTb_4 (List.mem_of_getElem? (i := 208) rfl) rfl⟩
set_option maxRecDepth 20000 in
theorem ck_X7_242 : gCalV RX7 242 yX9_addDrawn cX9_addDrawn 2 none 1 := ⟨⟨gTb_6 (List.mem_of_getElem? (i := 78) rfl) rfl, gTb_6 (List.mem_of_getElem? (i := 81) rfl) rfl, gTb_1 (List.mem_of_getElem? (i := 9) rfl) rfl, ⟨by decide +kernel, by decide +kernel⟩, by decide +kernel, by decide⟩, gTb_6 (List.mem_of_getElem? (i := 79) rfl) rfl, gTb_6 (List.mem_of_getElem? (i := 80) rfl) rfl⟩
set_option maxRecDepth 20000 in
theorem ck_X7_245 : gCalV RX7 245 yX1_atOf cX1_atOf 2 (some .int) 1 := ⟨⟨gTb_4 (List.mem_of_getElem? (i := 185) rfl) rfl, gTb_4 (List.mem_of_getElem? (i := 188) rfl) rfl, gTb_1 (List.mem_of_getElem? (i := 3) rfl) rfl, ⟨by decide +kernel, by decide +kernel⟩, by decide +kernel, by decide⟩, gTb_4 (List.mem_of_getElem? (i := 186) rfl) rfl, gTb_4 (List.mem_of_getElem? (i := 187) rfl) rfl⟩
set_option maxRecDepth 20000 in
theorem ck_X7_248 : gCalV RX7 248 yX9_addFall cX9_addFall 3 none 2 := ⟨⟨gTb_4 (List.mem_of_getElem? (i := 189) rfl) rfl, gTb_4 (List.mem_of_getElem? (i := 192) rfl) rfl, gTb_1 (List.mem_of_getElem? (i := 9) rfl) rfl, ⟨by decide +kernel, by decide +kernel⟩, by decide +kernel, by decide⟩, gTb_4 (List.mem_of_getElem? (i := 190) rfl) rfl, gTb_4 (List.mem_of_getElem? (i := 191) rfl) rfl⟩
theorem fk_X8_9 : Cond.fieldLink RX8 9 "FigureTexts$Things" "kinds" "[I" ∈ gTb := gTb_1 (List.mem_of_getElem? (i := 207) rfl) rfl
theorem fk_X8_15 : Cond.fieldLink RX8 15 "FigureTexts$Things" "leaning" "[I" ∈ gTb := gTb_1 (List.mem_of_getElem? (i := 208) rfl) rfl
theorem fk_X8_18 : Cond.fieldLink RX8 18 "FigureTexts$Things" "parts" "[J" ∈ gTb := gTb_1 (List.mem_of_getElem? (i := 209) rfl) rfl
theorem fk_X8_22 : Cond.fieldLink RX8 22 "FigureTexts$Things" "held" "[I" ∈ gTb := gTb_1 (List.mem_of_getElem? (i := 210) rfl) rfl
theorem fk_X8_25 : Cond.fieldLink RX8 25 "FigureTexts$Things" "many" "I" ∈ gTb := gTb_1 (List.mem_of_getElem? (i := 211) rfl) rfl
set_option maxRecDepth 20000 in
theorem ck_X8_29 : gCalN RX8 29 yX12_inside cX12_inside 2 (some .boolean) 2 "FigureTexts" := ⟨⟨gTb_2 (List.mem_of_getElem? (i := 207) rfl) rfl, gTb_1 (List.mem_of_getElem? (i := 1) rfl) rfl, ⟨by decide +kernel, by decide +kernel⟩, by decide +kernel, by decide⟩, gTb_2 (List.mem_of_getElem? (i := 206) rfl) rfl⟩
theorem cw_X8_29 : Cond.methodLinkNest RX8 29 yX12_inside "FigureTexts" ∈ cNest := List.mem_of_getElem? (i := 11) rfl
set_option maxRecDepth 20000 in
theorem ck_X8_33 : gCalV RX8 33 yX8_add cX8_add 3 (some .int) 2 := ⟨⟨gTb_4 (List.mem_of_getElem? (i := 160) rfl) rfl, gTb_4 (List.mem_of_getElem? (i := 163) rfl) rfl, gTb_1 (List.mem_of_getElem? (i := 7) rfl) rfl, ⟨by decide +kernel, by decide +kernel⟩, by decide +kernel, by decide⟩, gTb_4 (List.mem_of_getElem? (i := 161) rfl) rfl, gTb_4 (List.mem_of_getElem? (i := 162) rfl) rfl⟩
set_option maxRecDepth 20000 in
theorem ck_X8_37 : gCalV RX8 37 yX8_setPart cX8_setPart 5 none 3 := ⟨⟨gTb_4 (List.mem_of_getElem? (i := 165) rfl) rfl, gTb_4 (List.mem_of_getElem? (i := 168) rfl) rfl, gTb_1 (List.mem_of_getElem? (i := 7) rfl) rfl, ⟨by decide +kernel, by decide +kernel⟩, by decide +kernel, by decide⟩, gTb_4 (List.mem_of_getElem? (i := 166) rfl) rfl, gTb_4 (List.mem_of_getElem? (i := 167) rfl) rfl⟩
set_option maxRecDepth 20000 in
theorem ck_X8_41 : gCalS RX8 41 yX6_whole cX6_whole 1 (some .long) 1 := ⟨⟨gTb_5 (List.mem_of_getElem? (i := 215) rfl) rfl, gTb_4 (List.mem_of_getElem? (i := 155) rfl) rfl, gTb_1 (List.mem_of_getElem? (i := 6) rfl) rfl, ⟨by decide +kernel, by decide +kernel⟩, by decide +kernel, by decide⟩, gTb_4 (List.mem_of_getElem? (i := 154) rfl) rfl⟩
set_option maxRecDepth 20000 in
theorem ck_X8_47 : gCalV RX8 47 yX8_hold cX8_hold 4 none 3 := ⟨⟨gTb_5 (List.mem_of_getElem? (i := 216) rfl) rfl, gTb_5 (List.mem_of_getElem? (i := 219) rfl) rfl, gTb_1 (List.mem_of_getElem? (i := 7) rfl) rfl, ⟨by decide +kernel, by decide +kernel⟩, by decide +kernel, by decide⟩, gTb_5 (List.mem_of_getElem? (i := 217) rfl) rfl, gTb_5 (List.mem_of_getElem? (i := 218) rfl) rfl⟩
set_option maxRecDepth 20000 in
theorem ck_X8_51 : gCalV RX8 51 yX8_partOf cX8_partOf 4 (some .long) 2 := ⟨⟨gTb_5 (List.mem_of_getElem? (i := 3) rfl) rfl, gTb_5 (List.mem_of_getElem? (i := 6) rfl) rfl, gTb_1 (List.mem_of_getElem? (i := 7) rfl) rfl, ⟨by decide +kernel, by decide +kernel⟩, by decide +kernel, by decide⟩, gTb_5 (List.mem_of_getElem? (i := 4) rfl) rfl, gTb_5 (List.mem_of_getElem? (i := 5) rfl) rfl⟩
set_option maxRecDepth 20000 in
theorem ck_X8_55 : gCalS RX8 55 yX6_top cX6_top 2 (some .long) 1 := ⟨⟨gTb_6 (List.mem_of_getElem? (i := 28) rfl) rfl, gTb_5 (List.mem_of_getElem? (i := 38) rfl) rfl, gTb_1 (List.mem_of_getElem? (i := 6) rfl) rfl, ⟨by decide +kernel, by decide +kernel⟩, by decide +kernel, by decide⟩, gTb_5 (List.mem_of_getElem? (i := 37) rfl) rfl⟩
set_option maxRecDepth 20000 in
theorem ck_X8_59 : gCalV RX8 59 yX8_kindOf cX8_kindOf 2 (some .int) 1 := ⟨⟨gTb_4 (List.mem_of_getElem? (i := 239) rfl) rfl, gTb_5 (List.mem_of_getElem? (i := 2) rfl) rfl, gTb_1 (List.mem_of_getElem? (i := 7) rfl) rfl, ⟨by decide +kernel, by decide +kernel⟩, by decide +kernel, by decide⟩, gTb_5 (List.mem_of_getElem? (i := 0) rfl) rfl, gTb_5 (List.mem_of_getElem? (i := 1) rfl) rfl⟩
set_option maxRecDepth 20000 in
theorem ck_X8_66 : gCalS RX8 66 yX6_bottom cX6_bottom 2 (some .long) 1 := ⟨⟨gTb_5 (List.mem_of_getElem? (i := 7) rfl) rfl, gTb_5 (List.mem_of_getElem? (i := 9) rfl) rfl, gTb_1 (List.mem_of_getElem? (i := 6) rfl) rfl, ⟨by decide +kernel, by decide +kernel⟩, by decide +kernel, by decide⟩, gTb_5 (List.mem_of_getElem? (i := 8) rfl) rfl⟩
set_option maxRecDepth 20000 in
theorem ck_X8_69 : gCalV RX8 69 yX8_fits cX8_fits 4 (some .boolean) 2 := ⟨⟨gTb_5 (List.mem_of_getElem? (i := 92) rfl) rfl, gTb_4 (List.mem_of_getElem? (i := 238) rfl) rfl, gTb_1 (List.mem_of_getElem? (i := 7) rfl) rfl, ⟨by decide +kernel, by decide +kernel⟩, by decide +kernel, by decide⟩, gTb_4 (List.mem_of_getElem? (i := 236) rfl) rfl, gTb_4 (List.mem_of_getElem? (i := 237) rfl) rfl⟩
set_option maxRecDepth 20000 in
theorem ck_X8_73 : gCalV RX8 73 yX8_partsOf cX8_partsOf 3 (some .int) 1 := ⟨⟨gTb_5 (List.mem_of_getElem? (i := 93) rfl) rfl, gTb_5 (List.mem_of_getElem? (i := 96) rfl) rfl, gTb_1 (List.mem_of_getElem? (i := 7) rfl) rfl, ⟨by decide +kernel, by decide +kernel⟩, by decide +kernel, by decide⟩, gTb_5 (List.mem_of_getElem? (i := 94) rfl) rfl, gTb_5 (List.mem_of_getElem? (i := 95) rfl) rfl⟩
theorem fk_X9_9 : Cond.fieldLink RX9 9 "FigureTexts$Told" "drawn" "[I" ∈ gTb := gTb_2 (List.mem_of_getElem? (i := 24) rfl) rfl
theorem fk_X9_15 : Cond.fieldLink RX9 15 "FigureTexts$Told" "stated" "[I" ∈ gTb := gTb_2 (List.mem_of_getElem? (i := 25) rfl) rfl
theorem fk_X9_18 : Cond.fieldLink RX9 18 "FigureTexts$Told" "failures" "[I" ∈ gTb := gTb_2 (List.mem_of_getElem? (i := 26) rfl) rfl
theorem fk_X9_21 : Cond.fieldLink RX9 21 "FigureTexts$Told" "bytes" "[I" ∈ gTb := gTb_2 (List.mem_of_getElem? (i := 27) rfl) rfl
theorem fk_X9_24 : Cond.fieldLink RX9 24 "FigureTexts$Told" "draws" "I" ∈ gTb := gTb_2 (List.mem_of_getElem? (i := 28) rfl) rfl
theorem fk_X9_28 : Cond.fieldLink RX9 28 "FigureTexts$Told" "states" "I" ∈ gTb := gTb_2 (List.mem_of_getElem? (i := 30) rfl) rfl
theorem fk_X9_31 : Cond.fieldLink RX9 31 "FigureTexts$Told" "falls" "I" ∈ gTb := gTb_2 (List.mem_of_getElem? (i := 32) rfl) rfl
theorem fk_X9_34 : Cond.fieldLink RX9 34 "FigureTexts$Told" "steps" "I" ∈ gTb := gTb_2 (List.mem_of_getElem? (i := 34) rfl) rfl
theorem fk_X9_37 : Cond.fieldLink RX9 37 "FigureTexts$Told" "spent" "Z" ∈ gTb := gTb_2 (List.mem_of_getElem? (i := 36) rfl) rfl
set_option maxRecDepth 20000 in
theorem ck_X9_41 : gCalN RX9 41 yX12_inside cX12_inside 2 (some .boolean) 2 "FigureTexts" := ⟨⟨gTb_2 (List.mem_of_getElem? (i := 207) rfl) rfl, gTb_1 (List.mem_of_getElem? (i := 1) rfl) rfl, ⟨by decide +kernel, by decide +kernel⟩, by decide +kernel, by decide⟩, gTb_2 (List.mem_of_getElem? (i := 206) rfl) rfl⟩
theorem cw_X9_41 : Cond.methodLinkNest RX9 41 yX12_inside "FigureTexts" ∈ cNest := List.mem_of_getElem? (i := 12) rfl
theorem fk_X11_9 : Cond.fieldLink RX11 9 "FigureTexts$Workshop" "arguments" "[I" ∈ gTb := gTb_2 (List.mem_of_getElem? (i := 72) rfl) rfl
theorem fk_X11_17 : Cond.fieldLink RX11 17 "FigureTexts$Workshop" "x" "J" ∈ gTb := gTb_2 (List.mem_of_getElem? (i := 73) rfl) rfl
theorem fk_X11_21 : Cond.fieldLink RX11 21 "FigureTexts$Workshop" "y" "J" ∈ gTb := gTb_2 (List.mem_of_getElem? (i := 74) rfl) rfl
theorem fk_X11_24 : Cond.fieldLink RX11 24 "FigureTexts$Workshop" "a" "J" ∈ gTb := gTb_2 (List.mem_of_getElem? (i := 75) rfl) rfl
theorem fk_X11_27 : Cond.fieldLink RX11 27 "FigureTexts$Workshop" "b" "J" ∈ gTb := gTb_2 (List.mem_of_getElem? (i := 76) rfl) rfl
theorem fk_X11_30 : Cond.fieldLink RX11 30 "FigureTexts$Workshop" "c" "J" ∈ gTb := gTb_2 (List.mem_of_getElem? (i := 77) rfl) rfl
theorem fk_X11_33 : Cond.fieldLink RX11 33 "FigureTexts$Workshop" "square" "J" ∈ gTb := gTb_2 (List.mem_of_getElem? (i := 78) rfl) rfl
theorem fk_X11_36 : Cond.fieldLink RX11 36 "FigureTexts$Workshop" "reckoner" "LFigureTexts$Reckoner;" ∈ gTb := gTb_2 (List.mem_of_getElem? (i := 66) rfl) rfl
theorem fk_X11_40 : Cond.fieldLink RX11 40 "FigureTexts$Workshop" "things" "LFigureTexts$Things;" ∈ gTb := gTb_2 (List.mem_of_getElem? (i := 68) rfl) rfl
theorem fk_X11_44 : Cond.fieldLink RX11 44 "FigureTexts$Workshop" "frees" "LFigureTexts$Frees;" ∈ gTb := gTb_2 (List.mem_of_getElem? (i := 70) rfl) rfl
set_option maxRecDepth 20000 in
theorem ck_X11_48 : gCalV RX11 48 yX6_fail cX6_fail 2 none 1 := ⟨⟨gTb_4 (List.mem_of_getElem? (i := 231) rfl) rfl, gTb_4 (List.mem_of_getElem? (i := 234) rfl) rfl, gTb_1 (List.mem_of_getElem? (i := 6) rfl) rfl, ⟨by decide +kernel, by decide +kernel⟩, by decide +kernel, by decide⟩, gTb_4 (List.mem_of_getElem? (i := 232) rfl) rfl, gTb_4 (List.mem_of_getElem? (i := 233) rfl) rfl⟩
set_option maxRecDepth 20000 in
theorem ck_X11_52 : gCalV RX11 52 yX8_fits cX8_fits 4 (some .boolean) 2 := ⟨⟨gTb_4 (List.mem_of_getElem? (i := 235) rfl) rfl, gTb_4 (List.mem_of_getElem? (i := 238) rfl) rfl, gTb_1 (List.mem_of_getElem? (i := 7) rfl) rfl, ⟨by decide +kernel, by decide +kernel⟩, by decide +kernel, by decide⟩, gTb_4 (List.mem_of_getElem? (i := 236) rfl) rfl, gTb_4 (List.mem_of_getElem? (i := 237) rfl) rfl⟩
set_option maxRecDepth 20000 in
theorem ck_X11_58 : gCalV RX11 58 yX6_begin cX6_begin 1 none 0 := ⟨⟨gTb_4 (List.mem_of_getElem? (i := 223) rfl) rfl, gTb_4 (List.mem_of_getElem? (i := 80) rfl) rfl, gTb_1 (List.mem_of_getElem? (i := 6) rfl) rfl, ⟨by decide +kernel, by decide +kernel⟩, by decide +kernel, by decide⟩, gTb_4 (List.mem_of_getElem? (i := 78) rfl) rfl, gTb_4 (List.mem_of_getElem? (i := 79) rfl) rfl⟩
set_option maxRecDepth 20000 in
theorem ck_X11_61 : gCalV RX11 61 yX11_ask cX11_ask 3 none 2 := ⟨⟨gTb_4 (List.mem_of_getElem? (i := 227) rfl) rfl, gTb_4 (List.mem_of_getElem? (i := 230) rfl) rfl, gTb_1 (List.mem_of_getElem? (i := 11) rfl) rfl, ⟨by decide +kernel, by decide +kernel⟩, by decide +kernel, by decide⟩, gTb_4 (List.mem_of_getElem? (i := 229) rfl) rfl, gPr_3 (q := (⟨"FigureTexts$Workshop", "ask", "(IC)V"⟩, _)) (List.mem_of_getElem? (i := 8) rfl)⟩
theorem fk_X11_65 : Cond.fieldLink RX11 65 "FigureTexts$Reckoner" "failure" "I" ∈ gTb := gTb_1 (List.mem_of_getElem? (i := 195) rfl) rfl
set_option maxRecDepth 20000 in
theorem ck_X11_69 : gCalN RX11 69 yX12_inside cX12_inside 2 (some .boolean) 2 "FigureTexts" := ⟨⟨gTb_2 (List.mem_of_getElem? (i := 207) rfl) rfl, gTb_1 (List.mem_of_getElem? (i := 1) rfl) rfl, ⟨by decide +kernel, by decide +kernel⟩, by decide +kernel, by decide⟩, gTb_2 (List.mem_of_getElem? (i := 206) rfl) rfl⟩
theorem cw_X11_69 : Cond.methodLinkNest RX11 69 yX12_inside "FigureTexts" ∈ cNest := List.mem_of_getElem? (i := 14) rfl
set_option maxRecDepth 20000 in
theorem ck_X11_73 : gCalV RX11 73 yX8_partOf cX8_partOf 4 (some .long) 2 := ⟨⟨gTb_5 (List.mem_of_getElem? (i := 31) rfl) rfl, gTb_5 (List.mem_of_getElem? (i := 6) rfl) rfl, gTb_1 (List.mem_of_getElem? (i := 7) rfl) rfl, ⟨by decide +kernel, by decide +kernel⟩, by decide +kernel, by decide⟩, gTb_5 (List.mem_of_getElem? (i := 4) rfl) rfl, gTb_5 (List.mem_of_getElem? (i := 5) rfl) rfl⟩
set_option maxRecDepth 20000 in
theorem ck_X11_93 : gCalV RX11 93 yX8_leaningOf cX8_leaningOf 2 (some .int) 1 := ⟨⟨gTb_5 (List.mem_of_getElem? (i := 11) rfl) rfl, gTb_5 (List.mem_of_getElem? (i := 14) rfl) rfl, gTb_1 (List.mem_of_getElem? (i := 7) rfl) rfl, ⟨by decide +kernel, by decide +kernel⟩, by decide +kernel, by decide⟩, gTb_5 (List.mem_of_getElem? (i := 12) rfl) rfl, gTb_5 (List.mem_of_getElem? (i := 13) rfl) rfl⟩
set_option maxRecDepth 20000 in
theorem ck_X11_100 : gCalV RX11 100 yX11_told cX11_told 2 (some .long) 1 := ⟨⟨gTb_5 (List.mem_of_getElem? (i := 15) rfl) rfl, gTb_5 (List.mem_of_getElem? (i := 18) rfl) rfl, gTb_1 (List.mem_of_getElem? (i := 11) rfl) rfl, ⟨by decide +kernel, by decide +kernel⟩, by decide +kernel, by decide⟩, gTb_5 (List.mem_of_getElem? (i := 17) rfl) rfl, gPr_3 (q := (⟨"FigureTexts$Workshop", "told", "(LFigureTexts$Tool;)J"⟩, _)) (List.mem_of_getElem? (i := 9) rfl)⟩
set_option maxRecDepth 20000 in
theorem ck_X11_104 : gCalV RX11 104 yX11_measured cX11_measured 2 (some .long) 1 := ⟨⟨gTb_5 (List.mem_of_getElem? (i := 51) rfl) rfl, gTb_5 (List.mem_of_getElem? (i := 54) rfl) rfl, gTb_1 (List.mem_of_getElem? (i := 11) rfl) rfl, ⟨by decide +kernel, by decide +kernel⟩, by decide +kernel, by decide⟩, gTb_5 (List.mem_of_getElem? (i := 53) rfl) rfl, gPr_3 (q := (⟨"FigureTexts$Workshop", "measured", "(LFigureTexts$Tool;)J"⟩, _)) (List.mem_of_getElem? (i := 11) rfl)⟩
set_option maxRecDepth 20000 in
theorem ck_X11_107 : gCalV RX11 107 yX8_addNumber cX8_addNumber 5 (some .int) 2 := ⟨⟨gTb_5 (List.mem_of_getElem? (i := 100) rfl) rfl, gTb_4 (List.mem_of_getElem? (i := 159) rfl) rfl, gTb_1 (List.mem_of_getElem? (i := 7) rfl) rfl, ⟨by decide +kernel, by decide +kernel⟩, by decide +kernel, by decide⟩, gTb_4 (List.mem_of_getElem? (i := 157) rfl) rfl, gTb_4 (List.mem_of_getElem? (i := 158) rfl) rfl⟩
set_option maxRecDepth 20000 in
theorem ck_X11_111 : gCalV RX11 111 yX11_makePoint cX11_makePoint 2 none 1 := ⟨⟨gTb_5 (List.mem_of_getElem? (i := 101) rfl) rfl, gTb_5 (List.mem_of_getElem? (i := 104) rfl) rfl, gTb_1 (List.mem_of_getElem? (i := 11) rfl) rfl, ⟨by decide +kernel, by decide +kernel⟩, by decide +kernel, by decide⟩, gTb_5 (List.mem_of_getElem? (i := 103) rfl) rfl, gPr_3 (q := (⟨"FigureTexts$Workshop", "makePoint", "(LFigureTexts$Tool;)V"⟩, _)) (List.mem_of_getElem? (i := 15) rfl)⟩
set_option maxRecDepth 20000 in
theorem ck_X11_115 : gCalV RX11 115 yX11_newPoint cX11_newPoint 4 (some .int) 2 := ⟨⟨gTb_5 (List.mem_of_getElem? (i := 153) rfl) rfl, gTb_5 (List.mem_of_getElem? (i := 156) rfl) rfl, gTb_1 (List.mem_of_getElem? (i := 11) rfl) rfl, ⟨by decide +kernel, by decide +kernel⟩, by decide +kernel, by decide⟩, gTb_5 (List.mem_of_getElem? (i := 155) rfl) rfl, gPr_4 (q := (⟨"FigureTexts$Workshop", "newPoint", "(II)I"⟩, _)) (List.mem_of_getElem? (i := 9) rfl)⟩
set_option maxRecDepth 20000 in
theorem ck_X11_119 : gCalV RX11 119 yX11_newFree cX11_newFree 5 (some .int) 1 := ⟨⟨gTb_5 (List.mem_of_getElem? (i := 159) rfl) rfl, gTb_5 (List.mem_of_getElem? (i := 162) rfl) rfl, gTb_1 (List.mem_of_getElem? (i := 11) rfl) rfl, ⟨by decide +kernel, by decide +kernel⟩, by decide +kernel, by decide⟩, gTb_5 (List.mem_of_getElem? (i := 161) rfl) rfl, gPr_4 (q := (⟨"FigureTexts$Workshop", "newFree", "(I)I"⟩, _)) (List.mem_of_getElem? (i := 10) rfl)⟩
set_option maxRecDepth 20000 in
theorem ck_X11_126 : gCalV RX11 126 yX11_given cX11_given 3 (some .long) 2 := ⟨⟨gTb_5 (List.mem_of_getElem? (i := 27) rfl) rfl, gTb_5 (List.mem_of_getElem? (i := 30) rfl) rfl, gTb_1 (List.mem_of_getElem? (i := 11) rfl) rfl, ⟨by decide +kernel, by decide +kernel⟩, by decide +kernel, by decide⟩, gTb_5 (List.mem_of_getElem? (i := 29) rfl) rfl, gPr_3 (q := (⟨"FigureTexts$Workshop", "given", "(II)J"⟩, _)) (List.mem_of_getElem? (i := 10) rfl)⟩
set_option maxRecDepth 20000 in
theorem ck_X11_129 : gCalV RX11 129 yX11_ring cX11_ring 11 none 2 := ⟨⟨gTb_5 (List.mem_of_getElem? (i := 178) rfl) rfl, gTb_5 (List.mem_of_getElem? (i := 181) rfl) rfl, gTb_1 (List.mem_of_getElem? (i := 11) rfl) rfl, ⟨by decide +kernel, by decide +kernel⟩, by decide +kernel, by decide⟩, gTb_5 (List.mem_of_getElem? (i := 180) rfl) rfl, gPr_4 (q := (⟨"FigureTexts$Workshop", "ring", "(JJ)V"⟩, _)) (List.mem_of_getElem? (i := 11) rfl)⟩
set_option maxRecDepth 20000 in
theorem ck_X11_133 : gCalV RX11 133 yX11_makeCircle cX11_makeCircle 2 none 1 := ⟨⟨gTb_5 (List.mem_of_getElem? (i := 190) rfl) rfl, gTb_5 (List.mem_of_getElem? (i := 193) rfl) rfl, gTb_1 (List.mem_of_getElem? (i := 11) rfl) rfl, ⟨by decide +kernel, by decide +kernel⟩, by decide +kernel, by decide⟩, gTb_5 (List.mem_of_getElem? (i := 192) rfl) rfl, gPr_4 (q := (⟨"FigureTexts$Workshop", "makeCircle", "(LFigureTexts$Tool;)V"⟩, _)) (List.mem_of_getElem? (i := 14) rfl)⟩
set_option maxRecDepth 20000 in
theorem ck_X11_136 : gCalV RX11 136 yX11_newCircle cX11_newCircle 3 (some .int) 1 := ⟨⟨gTb_5 (List.mem_of_getElem? (i := 196) rfl) rfl, gTb_5 (List.mem_of_getElem? (i := 199) rfl) rfl, gTb_1 (List.mem_of_getElem? (i := 11) rfl) rfl, ⟨by decide +kernel, by decide +kernel⟩, by decide +kernel, by decide⟩, gTb_5 (List.mem_of_getElem? (i := 198) rfl) rfl, gPr_4 (q := (⟨"FigureTexts$Workshop", "newCircle", "(I)I"⟩, _)) (List.mem_of_getElem? (i := 15) rfl)⟩
set_option maxRecDepth 20000 in
theorem ck_X11_139 : gCalV RX11 139 yX11_newRow cX11_newRow 5 (some .int) 1 := ⟨⟨gTb_5 (List.mem_of_getElem? (i := 200) rfl) rfl, gTb_5 (List.mem_of_getElem? (i := 203) rfl) rfl, gTb_1 (List.mem_of_getElem? (i := 11) rfl) rfl, ⟨by decide +kernel, by decide +kernel⟩, by decide +kernel, by decide⟩, gTb_5 (List.mem_of_getElem? (i := 202) rfl) rfl, gPr_5 (q := (⟨"FigureTexts$Workshop", "newRow", "(LFigureTexts$Tool;)I"⟩, _)) (List.mem_of_getElem? (i := 0) rfl)⟩
set_option maxRecDepth 20000 in
theorem ck_X11_143 : gCalV RX11 143 yX11_makeLine cX11_makeLine 2 none 1 := ⟨⟨gTb_5 (List.mem_of_getElem? (i := 220) rfl) rfl, gTb_5 (List.mem_of_getElem? (i := 223) rfl) rfl, gTb_1 (List.mem_of_getElem? (i := 11) rfl) rfl, ⟨by decide +kernel, by decide +kernel⟩, by decide +kernel, by decide⟩, gTb_5 (List.mem_of_getElem? (i := 222) rfl) rfl, gPr_5 (q := (⟨"FigureTexts$Workshop", "makeLine", "(LFigureTexts$Tool;)V"⟩, _)) (List.mem_of_getElem? (i := 1) rfl)⟩
set_option maxRecDepth 20000 in
theorem ck_X11_146 : gCalV RX11 146 yX11_newLine cX11_newLine 4 (some .int) 2 := ⟨⟨gTb_5 (List.mem_of_getElem? (i := 224) rfl) rfl, gTb_5 (List.mem_of_getElem? (i := 227) rfl) rfl, gTb_1 (List.mem_of_getElem? (i := 11) rfl) rfl, ⟨by decide +kernel, by decide +kernel⟩, by decide +kernel, by decide⟩, gTb_5 (List.mem_of_getElem? (i := 226) rfl) rfl, gPr_5 (q := (⟨"FigureTexts$Workshop", "newLine", "(II)I"⟩, _)) (List.mem_of_getElem? (i := 2) rfl)⟩
set_option maxRecDepth 20000 in
theorem ck_X11_149 : gCalV RX11 149 yX8_add cX8_add 3 (some .int) 2 := ⟨⟨gTb_5 (List.mem_of_getElem? (i := 157) rfl) rfl, gTb_4 (List.mem_of_getElem? (i := 163) rfl) rfl, gTb_1 (List.mem_of_getElem? (i := 7) rfl) rfl, ⟨by decide +kernel, by decide +kernel⟩, by decide +kernel, by decide⟩, gTb_4 (List.mem_of_getElem? (i := 161) rfl) rfl, gTb_4 (List.mem_of_getElem? (i := 162) rfl) rfl⟩
set_option maxRecDepth 20000 in
theorem ck_X11_152 : gCalV RX11 152 yX8_setPart cX8_setPart 5 none 3 := ⟨⟨gTb_5 (List.mem_of_getElem? (i := 158) rfl) rfl, gTb_4 (List.mem_of_getElem? (i := 168) rfl) rfl, gTb_1 (List.mem_of_getElem? (i := 7) rfl) rfl, ⟨by decide +kernel, by decide +kernel⟩, by decide +kernel, by decide⟩, gTb_4 (List.mem_of_getElem? (i := 166) rfl) rfl, gTb_4 (List.mem_of_getElem? (i := 167) rfl) rfl⟩
theorem fk_X11_156 : Cond.fieldLink RX11 156 "FigureTexts$Frees" "came" "I" ∈ gTb := gTb_1 (List.mem_of_getElem? (i := 239) rfl) rfl
set_option maxRecDepth 20000 in
theorem ck_X11_161 : gCalV RX11 161 yX2_isMoved cX2_isMoved 2 (some .boolean) 1 := ⟨⟨gTb_5 (List.mem_of_getElem? (i := 163) rfl) rfl, gTb_4 (List.mem_of_getElem? (i := 99) rfl) rfl, gTb_1 (List.mem_of_getElem? (i := 8) rfl) rfl, ⟨by decide +kernel, by decide +kernel⟩, by decide +kernel, by decide⟩, gTb_4 (List.mem_of_getElem? (i := 97) rfl) rfl, gTb_4 (List.mem_of_getElem? (i := 98) rfl) rfl⟩
set_option maxRecDepth 20000 in
theorem ck_X11_165 : gCalV RX11 165 yX2_xOf cX2_xOf 2 (some .long) 1 := ⟨⟨gTb_5 (List.mem_of_getElem? (i := 164) rfl) rfl, gTb_5 (List.mem_of_getElem? (i := 167) rfl) rfl, gTb_1 (List.mem_of_getElem? (i := 8) rfl) rfl, ⟨by decide +kernel, by decide +kernel⟩, by decide +kernel, by decide⟩, gTb_5 (List.mem_of_getElem? (i := 165) rfl) rfl, gTb_5 (List.mem_of_getElem? (i := 166) rfl) rfl⟩
set_option maxRecDepth 20000 in
theorem ck_X11_169 : gCalV RX11 169 yX2_yOf cX2_yOf 2 (some .long) 1 := ⟨⟨gTb_5 (List.mem_of_getElem? (i := 168) rfl) rfl, gTb_5 (List.mem_of_getElem? (i := 171) rfl) rfl, gTb_1 (List.mem_of_getElem? (i := 8) rfl) rfl, ⟨by decide +kernel, by decide +kernel⟩, by decide +kernel, by decide⟩, gTb_5 (List.mem_of_getElem? (i := 169) rfl) rfl, gTb_5 (List.mem_of_getElem? (i := 170) rfl) rfl⟩
set_option maxRecDepth 20000 in
theorem ck_X11_172 : gCalV RX11 172 yX2_come cX2_come 2 none 1 := ⟨⟨gTb_5 (List.mem_of_getElem? (i := 172) rfl) rfl, gTb_5 (List.mem_of_getElem? (i := 175) rfl) rfl, gTb_1 (List.mem_of_getElem? (i := 8) rfl) rfl, ⟨by decide +kernel, by decide +kernel⟩, by decide +kernel, by decide⟩, gTb_5 (List.mem_of_getElem? (i := 173) rfl) rfl, gTb_5 (List.mem_of_getElem? (i := 174) rfl) rfl⟩
set_option maxRecDepth 20000 in
theorem ck_X11_175 : gCalS RX11 175 yX6_top cX6_top 2 (some .long) 1 := ⟨⟨gTb_5 (List.mem_of_getElem? (i := 143) rfl) rfl, gTb_5 (List.mem_of_getElem? (i := 38) rfl) rfl, gTb_1 (List.mem_of_getElem? (i := 6) rfl) rfl, ⟨by decide +kernel, by decide +kernel⟩, by decide +kernel, by decide⟩, gTb_5 (List.mem_of_getElem? (i := 37) rfl) rfl⟩
set_option maxRecDepth 20000 in
theorem ck_X11_190 : gCalV RX11 190 yX8_addRow cX8_addRow 5 (some .int) 2 := ⟨⟨gTb_5 (List.mem_of_getElem? (i := 211) rfl) rfl, gTb_5 (List.mem_of_getElem? (i := 214) rfl) rfl, gTb_1 (List.mem_of_getElem? (i := 7) rfl) rfl, ⟨by decide +kernel, by decide +kernel⟩, by decide +kernel, by decide⟩, gTb_5 (List.mem_of_getElem? (i := 212) rfl) rfl, gTb_5 (List.mem_of_getElem? (i := 213) rfl) rfl⟩
set_option maxRecDepth 20000 in
theorem ck_X11_201 : gCalV RX11 201 yX6_negative cX6_negative 3 (some .long) 1 := ⟨⟨gTb_5 (List.mem_of_getElem? (i := 32) rfl) rfl, gTb_5 (List.mem_of_getElem? (i := 35) rfl) rfl, gTb_1 (List.mem_of_getElem? (i := 6) rfl) rfl, ⟨by decide +kernel, by decide +kernel⟩, by decide +kernel, by decide⟩, gTb_5 (List.mem_of_getElem? (i := 33) rfl) rfl, gTb_5 (List.mem_of_getElem? (i := 34) rfl) rfl⟩
set_option maxRecDepth 20000 in
theorem ck_X11_204 : gCalV RX11 204 yX6_over cX6_over 5 (some .long) 2 := ⟨⟨gTb_5 (List.mem_of_getElem? (i := 41) rfl) rfl, gTb_5 (List.mem_of_getElem? (i := 44) rfl) rfl, gTb_1 (List.mem_of_getElem? (i := 6) rfl) rfl, ⟨by decide +kernel, by decide +kernel⟩, by decide +kernel, by decide⟩, gTb_5 (List.mem_of_getElem? (i := 42) rfl) rfl, gTb_5 (List.mem_of_getElem? (i := 43) rfl) rfl⟩
set_option maxRecDepth 20000 in
theorem ck_X11_208 : gCalS RX11 208 yX6_truth cX6_truth 1 (some .long) 1 := ⟨⟨gTb_5 (List.mem_of_getElem? (i := 45) rfl) rfl, gTb_5 (List.mem_of_getElem? (i := 47) rfl) rfl, gTb_1 (List.mem_of_getElem? (i := 6) rfl) rfl, ⟨by decide +kernel, by decide +kernel⟩, by decide +kernel, by decide⟩, gTb_5 (List.mem_of_getElem? (i := 46) rfl) rfl⟩
set_option maxRecDepth 20000 in
theorem ck_X11_212 : gCalV RX11 212 yX8_kindOf cX8_kindOf 2 (some .int) 1 := ⟨⟨gTb_5 (List.mem_of_getElem? (i := 49) rfl) rfl, gTb_5 (List.mem_of_getElem? (i := 2) rfl) rfl, gTb_1 (List.mem_of_getElem? (i := 7) rfl) rfl, ⟨by decide +kernel, by decide +kernel⟩, by decide +kernel, by decide⟩, gTb_5 (List.mem_of_getElem? (i := 0) rfl) rfl, gTb_5 (List.mem_of_getElem? (i := 1) rfl) rfl⟩
set_option maxRecDepth 20000 in
theorem ck_X11_215 : gCalS RX11 215 yX6_whole cX6_whole 1 (some .long) 1 := ⟨⟨gTb_5 (List.mem_of_getElem? (i := 50) rfl) rfl, gTb_4 (List.mem_of_getElem? (i := 155) rfl) rfl, gTb_1 (List.mem_of_getElem? (i := 6) rfl) rfl, ⟨by decide +kernel, by decide +kernel⟩, by decide +kernel, by decide⟩, gTb_4 (List.mem_of_getElem? (i := 154) rfl) rfl⟩
set_option maxRecDepth 20000 in
theorem ck_X11_218 : gCalV RX11 218 yX11_dist cX11_dist 15 (some .long) 4 := ⟨⟨gTb_5 (List.mem_of_getElem? (i := 55) rfl) rfl, gTb_5 (List.mem_of_getElem? (i := 58) rfl) rfl, gTb_1 (List.mem_of_getElem? (i := 11) rfl) rfl, ⟨by decide +kernel, by decide +kernel⟩, by decide +kernel, by decide⟩, gTb_5 (List.mem_of_getElem? (i := 57) rfl) rfl, gPr_3 (q := (⟨"FigureTexts$Workshop", "dist", "(JJJJ)J"⟩, _)) (List.mem_of_getElem? (i := 12) rfl)⟩
set_option maxRecDepth 20000 in
theorem ck_X11_222 : gCalV RX11 222 yX11_area cX11_area 5 (some .long) 0 := ⟨⟨gTb_5 (List.mem_of_getElem? (i := 71) rfl) rfl, gTb_5 (List.mem_of_getElem? (i := 74) rfl) rfl, gTb_1 (List.mem_of_getElem? (i := 11) rfl) rfl, ⟨by decide +kernel, by decide +kernel⟩, by decide +kernel, by decide⟩, gTb_5 (List.mem_of_getElem? (i := 73) rfl) rfl, gPr_3 (q := (⟨"FigureTexts$Workshop", "area", "()J"⟩, _)) (List.mem_of_getElem? (i := 13) rfl)⟩
set_option maxRecDepth 20000 in
theorem ck_X11_226 : gCalV RX11 226 yX6_minus cX6_minus 5 (some .long) 2 := ⟨⟨gTb_5 (List.mem_of_getElem? (i := 59) rfl) rfl, gTb_5 (List.mem_of_getElem? (i := 62) rfl) rfl, gTb_1 (List.mem_of_getElem? (i := 6) rfl) rfl, ⟨by decide +kernel, by decide +kernel⟩, by decide +kernel, by decide⟩, gTb_5 (List.mem_of_getElem? (i := 60) rfl) rfl, gTb_5 (List.mem_of_getElem? (i := 61) rfl) rfl⟩
set_option maxRecDepth 20000 in
theorem ck_X11_229 : gCalV RX11 229 yX11_isOn cX11_isOn 7 (some .boolean) 0 := ⟨⟨gTb_5 (List.mem_of_getElem? (i := 75) rfl) rfl, gTb_5 (List.mem_of_getElem? (i := 78) rfl) rfl, gTb_1 (List.mem_of_getElem? (i := 11) rfl) rfl, ⟨by decide +kernel, by decide +kernel⟩, by decide +kernel, by decide⟩, gTb_5 (List.mem_of_getElem? (i := 77) rfl) rfl, gPr_3 (q := (⟨"FigureTexts$Workshop", "isOn", "()Z"⟩, _)) (List.mem_of_getElem? (i := 14) rfl)⟩
set_option maxRecDepth 20000 in
theorem ck_X11_233 : gCalV RX11 233 yX8_alike cX8_alike 6 (some .boolean) 2 := ⟨⟨gTb_5 (List.mem_of_getElem? (i := 88) rfl) rfl, gTb_5 (List.mem_of_getElem? (i := 91) rfl) rfl, gTb_1 (List.mem_of_getElem? (i := 7) rfl) rfl, ⟨by decide +kernel, by decide +kernel⟩, by decide +kernel, by decide⟩, gTb_5 (List.mem_of_getElem? (i := 89) rfl) rfl, gTb_5 (List.mem_of_getElem? (i := 90) rfl) rfl⟩
set_option maxRecDepth 20000 in
theorem ck_X11_236 : gCalV RX11 236 yX6_times cX6_times 5 (some .long) 2 := ⟨⟨gTb_5 (List.mem_of_getElem? (i := 63) rfl) rfl, gTb_5 (List.mem_of_getElem? (i := 66) rfl) rfl, gTb_1 (List.mem_of_getElem? (i := 6) rfl) rfl, ⟨by decide +kernel, by decide +kernel⟩, by decide +kernel, by decide⟩, gTb_5 (List.mem_of_getElem? (i := 64) rfl) rfl, gTb_5 (List.mem_of_getElem? (i := 65) rfl) rfl⟩
set_option maxRecDepth 20000 in
theorem ck_X11_239 : gCalV RX11 239 yX6_plus cX6_plus 5 (some .long) 2 := ⟨⟨gTb_5 (List.mem_of_getElem? (i := 67) rfl) rfl, gTb_5 (List.mem_of_getElem? (i := 70) rfl) rfl, gTb_1 (List.mem_of_getElem? (i := 6) rfl) rfl, ⟨by decide +kernel, by decide +kernel⟩, by decide +kernel, by decide⟩, gTb_5 (List.mem_of_getElem? (i := 68) rfl) rfl, gTb_5 (List.mem_of_getElem? (i := 69) rfl) rfl⟩
set_option maxRecDepth 20000 in
theorem ck_X11_242 : gCalS RX11 242 yX11_isBetween cX11_isBetween 8 (some .boolean) 3 := ⟨⟨gTb_5 (List.mem_of_getElem? (i := 79) rfl) rfl, gTb_5 (List.mem_of_getElem? (i := 81) rfl) rfl, gTb_1 (List.mem_of_getElem? (i := 11) rfl) rfl, ⟨by decide +kernel, by decide +kernel⟩, by decide +kernel, by decide⟩, gTb_5 (List.mem_of_getElem? (i := 80) rfl) rfl⟩
set_option maxRecDepth 20000 in
theorem ck_X11_246 : gCalS RX11 246 yX6_compare cX6_compare 4 (some .int) 2 := ⟨⟨gTb_5 (List.mem_of_getElem? (i := 82) rfl) rfl, gTb_5 (List.mem_of_getElem? (i := 84) rfl) rfl, gTb_1 (List.mem_of_getElem? (i := 6) rfl) rfl, ⟨by decide +kernel, by decide +kernel⟩, by decide +kernel, by decide⟩, gTb_5 (List.mem_of_getElem? (i := 83) rfl) rfl⟩
set_option maxRecDepth 20000 in
theorem ck_X11_250 : gCalV RX11 250 yX11_takeEnd cX11_takeEnd 2 none 0 := ⟨⟨gTb_5 (List.mem_of_getElem? (i := 105) rfl) rfl, gTb_5 (List.mem_of_getElem? (i := 108) rfl) rfl, gTb_1 (List.mem_of_getElem? (i := 11) rfl) rfl, ⟨by decide +kernel, by decide +kernel⟩, by decide +kernel, by decide⟩, gTb_5 (List.mem_of_getElem? (i := 107) rfl) rfl, gPr_4 (q := (⟨"FigureTexts$Workshop", "takeEnd", "()V"⟩, _)) (List.mem_of_getElem? (i := 0) rfl)⟩
set_option maxRecDepth 20000 in
theorem ck_X11_253 : gCalV RX11 253 yX11_middle cX11_middle 9 none 4 := ⟨⟨gTb_5 (List.mem_of_getElem? (i := 114) rfl) rfl, gTb_5 (List.mem_of_getElem? (i := 117) rfl) rfl, gTb_1 (List.mem_of_getElem? (i := 11) rfl) rfl, ⟨by decide +kernel, by decide +kernel⟩, by decide +kernel, by decide⟩, gTb_5 (List.mem_of_getElem? (i := 116) rfl) rfl, gPr_4 (q := (⟨"FigureTexts$Workshop", "middle", "(JJJJ)V"⟩, _)) (List.mem_of_getElem? (i := 2) rfl)⟩
set_option maxRecDepth 20000 in
theorem ck_X11_257 : gCalV RX11 257 yX11_meet cX11_meet 15 none 6 := ⟨⟨gTb_5 (List.mem_of_getElem? (i := 119) rfl) rfl, gTb_5 (List.mem_of_getElem? (i := 122) rfl) rfl, gTb_1 (List.mem_of_getElem? (i := 11) rfl) rfl, ⟨by decide +kernel, by decide +kernel⟩, by decide +kernel, by decide⟩, gTb_5 (List.mem_of_getElem? (i := 121) rfl) rfl, gPr_4 (q := (⟨"FigureTexts$Workshop", "meet", "(JJJJJJ)V"⟩, _)) (List.mem_of_getElem? (i := 3) rfl)⟩
set_option maxRecDepth 20000 in
theorem ck_X11_261 : gCalV RX11 261 yX11_foot cX11_foot 11 none 5 := ⟨⟨gTb_5 (List.mem_of_getElem? (i := 123) rfl) rfl, gTb_5 (List.mem_of_getElem? (i := 126) rfl) rfl, gTb_1 (List.mem_of_getElem? (i := 11) rfl) rfl, ⟨by decide +kernel, by decide +kernel⟩, by decide +kernel, by decide⟩, gTb_5 (List.mem_of_getElem? (i := 125) rfl) rfl, gPr_4 (q := (⟨"FigureTexts$Workshop", "foot", "(JJJJJ)V"⟩, _)) (List.mem_of_getElem? (i := 4) rfl)⟩
set_option maxRecDepth 20000 in
theorem ck_X11_267 : gCalV RX11 267 yX11_scale cX11_scale 7 none 1 := ⟨⟨gTb_5 (List.mem_of_getElem? (i := 135) rfl) rfl, gTb_5 (List.mem_of_getElem? (i := 138) rfl) rfl, gTb_1 (List.mem_of_getElem? (i := 11) rfl) rfl, ⟨by decide +kernel, by decide +kernel⟩, by decide +kernel, by decide⟩, gTb_5 (List.mem_of_getElem? (i := 137) rfl) rfl, gPr_4 (q := (⟨"FigureTexts$Workshop", "scale", "(J)V"⟩, _)) (List.mem_of_getElem? (i := 7) rfl)⟩
set_option maxRecDepth 20000 in
theorem ck_X11_271 : gCalV RX11 271 yX11_askSide cX11_askSide 3 none 1 := ⟨⟨gTb_5 (List.mem_of_getElem? (i := 109) rfl) rfl, gTb_5 (List.mem_of_getElem? (i := 112) rfl) rfl, gTb_1 (List.mem_of_getElem? (i := 11) rfl) rfl, ⟨by decide +kernel, by decide +kernel⟩, by decide +kernel, by decide⟩, gTb_5 (List.mem_of_getElem? (i := 111) rfl) rfl, gPr_4 (q := (⟨"FigureTexts$Workshop", "askSide", "(J)V"⟩, _)) (List.mem_of_getElem? (i := 1) rfl)⟩
set_option maxRecDepth 20000 in
theorem ck_X11_274 : gCalV RX11 274 yX11_cutFromFoot cX11_cutFromFoot 20 none 0 := ⟨⟨gTb_5 (List.mem_of_getElem? (i := 139) rfl) rfl, gTb_5 (List.mem_of_getElem? (i := 142) rfl) rfl, gTb_1 (List.mem_of_getElem? (i := 11) rfl) rfl, ⟨by decide +kernel, by decide +kernel⟩, by decide +kernel, by decide⟩, gTb_5 (List.mem_of_getElem? (i := 141) rfl) rfl, gPr_4 (q := (⟨"FigureTexts$Workshop", "cutFromFoot", "()V"⟩, _)) (List.mem_of_getElem? (i := 8) rfl)⟩
set_option maxRecDepth 20000 in
theorem ck_X11_279 : gCalV RX11 279 yX11_perpendicular cX11_perpendicular 9 none 4 := ⟨⟨gTb_5 (List.mem_of_getElem? (i := 127) rfl) rfl, gTb_5 (List.mem_of_getElem? (i := 130) rfl) rfl, gTb_1 (List.mem_of_getElem? (i := 11) rfl) rfl, ⟨by decide +kernel, by decide +kernel⟩, by decide +kernel, by decide⟩, gTb_5 (List.mem_of_getElem? (i := 129) rfl) rfl, gPr_4 (q := (⟨"FigureTexts$Workshop", "perpendicular", "(JJJJ)V"⟩, _)) (List.mem_of_getElem? (i := 5) rfl)⟩
set_option maxRecDepth 20000 in
theorem ck_X11_282 : gCalV RX11 282 yX11_normal cX11_normal 3 none 0 := ⟨⟨gTb_5 (List.mem_of_getElem? (i := 131) rfl) rfl, gTb_5 (List.mem_of_getElem? (i := 134) rfl) rfl, gTb_1 (List.mem_of_getElem? (i := 11) rfl) rfl, ⟨by decide +kernel, by decide +kernel⟩, by decide +kernel, by decide⟩, gTb_5 (List.mem_of_getElem? (i := 133) rfl) rfl, gPr_4 (q := (⟨"FigureTexts$Workshop", "normal", "()V"⟩, _)) (List.mem_of_getElem? (i := 6) rfl)⟩
set_option maxRecDepth 20000 in
theorem ck_X11_285 : gCalV RX11 285 yX6_root cX6_root 7 (some .long) 1 := ⟨⟨gTb_5 (List.mem_of_getElem? (i := 144) rfl) rfl, gTb_5 (List.mem_of_getElem? (i := 147) rfl) rfl, gTb_1 (List.mem_of_getElem? (i := 6) rfl) rfl, ⟨by decide +kernel, by decide +kernel⟩, by decide +kernel, by decide⟩, gTb_5 (List.mem_of_getElem? (i := 145) rfl) rfl, gTb_5 (List.mem_of_getElem? (i := 146) rfl) rfl⟩
set_option maxRecDepth 20000 in
theorem ck_X11_288 : gCalV RX11 288 yX11_through cX11_through 9 none 4 := ⟨⟨gTb_5 (List.mem_of_getElem? (i := 186) rfl) rfl, gTb_5 (List.mem_of_getElem? (i := 189) rfl) rfl, gTb_1 (List.mem_of_getElem? (i := 11) rfl) rfl, ⟨by decide +kernel, by decide +kernel⟩, by decide +kernel, by decide⟩, gTb_5 (List.mem_of_getElem? (i := 188) rfl) rfl, gPr_4 (q := (⟨"FigureTexts$Workshop", "through", "(JJJJ)V"⟩, _)) (List.mem_of_getElem? (i := 13) rfl)⟩
set_option maxRecDepth 20000 in
theorem ck_X11_294 : gCalV RX11 294 yX11_halving cX11_halving 9 none 4 := ⟨⟨gTb_5 (List.mem_of_getElem? (i := 182) rfl) rfl, gTb_5 (List.mem_of_getElem? (i := 185) rfl) rfl, gTb_1 (List.mem_of_getElem? (i := 11) rfl) rfl, ⟨by decide +kernel, by decide +kernel⟩, by decide +kernel, by decide⟩, gTb_5 (List.mem_of_getElem? (i := 184) rfl) rfl, gPr_4 (q := (⟨"FigureTexts$Workshop", "halving", "(JJJJ)V"⟩, _)) (List.mem_of_getElem? (i := 12) rfl)⟩
set_option maxRecDepth 20000 in
theorem ck_X11_297 : gCalV RX11 297 yX11_reckoned cX11_reckoned 6 (some .long) 3 := ⟨⟨gTb_6 (List.mem_of_getElem? (i := 4) rfl) rfl, gTb_6 (List.mem_of_getElem? (i := 7) rfl) rfl, gTb_1 (List.mem_of_getElem? (i := 11) rfl) rfl, ⟨by decide +kernel, by decide +kernel⟩, by decide +kernel, by decide⟩, gTb_6 (List.mem_of_getElem? (i := 6) rfl) rfl, gPr_5 (q := (⟨"FigureTexts$Workshop", "reckoned", "(IJJ)J"⟩, _)) (List.mem_of_getElem? (i := 6) rfl)⟩
set_option maxRecDepth 20000 in
theorem ck_X11_301 : gCalV RX11 301 yX11_accepts cX11_accepts 3 (some .boolean) 2 := ⟨⟨gTb_6 (List.mem_of_getElem? (i := 12) rfl) rfl, gTb_6 (List.mem_of_getElem? (i := 15) rfl) rfl, gTb_1 (List.mem_of_getElem? (i := 11) rfl) rfl, ⟨by decide +kernel, by decide +kernel⟩, by decide +kernel, by decide⟩, gTb_6 (List.mem_of_getElem? (i := 13) rfl) rfl, gTb_6 (List.mem_of_getElem? (i := 14) rfl) rfl⟩
set_option maxRecDepth 20000 in
theorem ck_X11_304 : gCalV RX11 304 yX8_wholeOf cX8_wholeOf 3 (some .int) 2 := ⟨⟨gTb_6 (List.mem_of_getElem? (i := 24) rfl) rfl, gTb_6 (List.mem_of_getElem? (i := 27) rfl) rfl, gTb_1 (List.mem_of_getElem? (i := 7) rfl) rfl, ⟨by decide +kernel, by decide +kernel⟩, by decide +kernel, by decide⟩, gTb_6 (List.mem_of_getElem? (i := 25) rfl) rfl, gTb_6 (List.mem_of_getElem? (i := 26) rfl) rfl⟩
set_option maxRecDepth 20000 in
theorem ck_X11_307 : gCalV RX11 307 yX11_askPlace cX11_askPlace 3 none 2 := ⟨⟨gTb_6 (List.mem_of_getElem? (i := 20) rfl) rfl, gTb_6 (List.mem_of_getElem? (i := 23) rfl) rfl, gTb_1 (List.mem_of_getElem? (i := 11) rfl) rfl, ⟨by decide +kernel, by decide +kernel⟩, by decide +kernel, by decide⟩, gTb_6 (List.mem_of_getElem? (i := 22) rfl) rfl, gPr_5 (q := (⟨"FigureTexts$Workshop", "askPlace", "(II)V"⟩, _)) (List.mem_of_getElem? (i := 7) rfl)⟩
set_option maxRecDepth 20000 in
theorem ck_X11_311 : gCalV RX11 311 yX8_heldAt cX8_heldAt 3 (some .int) 2 := ⟨⟨gTb_6 (List.mem_of_getElem? (i := 29) rfl) rfl, gTb_6 (List.mem_of_getElem? (i := 32) rfl) rfl, gTb_1 (List.mem_of_getElem? (i := 7) rfl) rfl, ⟨by decide +kernel, by decide +kernel⟩, by decide +kernel, by decide⟩, gTb_6 (List.mem_of_getElem? (i := 30) rfl) rfl, gTb_6 (List.mem_of_getElem? (i := 31) rfl) rfl⟩
set_option maxRecDepth 20000 in
theorem ck_X11_314 : gCalV RX11 314 yX8_fitsSort cX8_fitsSort 3 (some .boolean) 2 := ⟨⟨gTb_6 (List.mem_of_getElem? (i := 46) rfl) rfl, gTb_6 (List.mem_of_getElem? (i := 49) rfl) rfl, gTb_1 (List.mem_of_getElem? (i := 7) rfl) rfl, ⟨by decide +kernel, by decide +kernel⟩, by decide +kernel, by decide⟩, gTb_6 (List.mem_of_getElem? (i := 47) rfl) rfl, gTb_6 (List.mem_of_getElem? (i := 48) rfl) rfl⟩
set_option maxRecDepth 20000 in
theorem ck_X11_317 : gCalV RX11 317 yX8_hold cX8_hold 4 none 3 := ⟨⟨gTb_6 (List.mem_of_getElem? (i := 50) rfl) rfl, gTb_5 (List.mem_of_getElem? (i := 219) rfl) rfl, gTb_1 (List.mem_of_getElem? (i := 7) rfl) rfl, ⟨by decide +kernel, by decide +kernel⟩, by decide +kernel, by decide⟩, gTb_5 (List.mem_of_getElem? (i := 217) rfl) rfl, gTb_5 (List.mem_of_getElem? (i := 218) rfl) rfl⟩
set_option maxRecDepth 20000 in
theorem ck_X1_88 : gCalV RX1 88 yJ0_length_8abf5 cJ0_length_8abf5 1 (some .int) 0 := ⟨⟨gTb_3 (List.mem_of_getElem? (i := 88) rfl) rfl, gTb_3 (List.mem_of_getElem? (i := 14) rfl) rfl, gTb_1 (List.mem_of_getElem? (i := 14) rfl) rfl, ⟨by decide +kernel, by decide +kernel⟩, by decide +kernel, by decide⟩, gTb_3 (List.mem_of_getElem? (i := 12) rfl) rfl, gTb_3 (List.mem_of_getElem? (i := 13) rfl) rfl⟩
set_option maxRecDepth 20000 in
theorem ck_X1_93 : gCalV RX1 93 yJ0_charAt_5068e cJ0_charAt_5068e 2 (some .char) 1 := ⟨⟨gTb_3 (List.mem_of_getElem? (i := 93) rfl) rfl, gTb_3 (List.mem_of_getElem? (i := 96) rfl) rfl, gTb_1 (List.mem_of_getElem? (i := 14) rfl) rfl, ⟨by decide +kernel, by decide +kernel⟩, by decide +kernel, by decide⟩, gTb_3 (List.mem_of_getElem? (i := 94) rfl) rfl, gTb_3 (List.mem_of_getElem? (i := 95) rfl) rfl⟩
set_option maxRecDepth 20000 in
theorem ck_X3_27 : gCalV RX3 27 yJ0_length_8abf5 cJ0_length_8abf5 1 (some .int) 0 := ⟨⟨gTb_6 (List.mem_of_getElem? (i := 115) rfl) rfl, gTb_3 (List.mem_of_getElem? (i := 14) rfl) rfl, gTb_1 (List.mem_of_getElem? (i := 14) rfl) rfl, ⟨by decide +kernel, by decide +kernel⟩, by decide +kernel, by decide⟩, gTb_3 (List.mem_of_getElem? (i := 12) rfl) rfl, gTb_3 (List.mem_of_getElem? (i := 13) rfl) rfl⟩
set_option maxRecDepth 20000 in
theorem ck_X3_32 : gCalV RX3 32 yJ0_charAt_5068e cJ0_charAt_5068e 2 (some .char) 1 := ⟨⟨gTb_6 (List.mem_of_getElem? (i := 116) rfl) rfl, gTb_3 (List.mem_of_getElem? (i := 96) rfl) rfl, gTb_1 (List.mem_of_getElem? (i := 14) rfl) rfl, ⟨by decide +kernel, by decide +kernel⟩, by decide +kernel, by decide⟩, gTb_3 (List.mem_of_getElem? (i := 94) rfl) rfl, gTb_3 (List.mem_of_getElem? (i := 95) rfl) rfl⟩
set_option maxRecDepth 20000 in
theorem ck_X5_83 : gCalV RX5 83 yJ0_indexOf_0f7a4 cJ0_indexOf_0f7a4 2 (some .int) 1 := ⟨⟨gTb_2 (List.mem_of_getElem? (i := 237) rfl) rfl, gTb_3 (List.mem_of_getElem? (i := 0) rfl) rfl, gTb_1 (List.mem_of_getElem? (i := 14) rfl) rfl, ⟨by decide +kernel, by decide +kernel⟩, by decide +kernel, by decide⟩, gTb_2 (List.mem_of_getElem? (i := 238) rfl) rfl, gTb_2 (List.mem_of_getElem? (i := 239) rfl) rfl⟩
theorem fk_X5_112 : Cond.fieldLink RX5 112 "FigureTexts$Tool" "word" "Ljava/lang/String;" ∈ gTb := gTb_11 (List.mem_of_getElem? (i := 211) rfl) rfl
theorem fk_X5_227 : Cond.fieldLink RX5 227 "FigureTexts$Tool" "wants" "Ljava/lang/String;" ∈ gTb := gTb_11 (List.mem_of_getElem? (i := 212) rfl) rfl
set_option maxRecDepth 20000 in
theorem ck_X5_230 : gCalV RX5 230 yJ0_length_8abf5 cJ0_length_8abf5 1 (some .int) 0 := ⟨⟨gTb_4 (List.mem_of_getElem? (i := 19) rfl) rfl, gTb_3 (List.mem_of_getElem? (i := 14) rfl) rfl, gTb_1 (List.mem_of_getElem? (i := 14) rfl) rfl, ⟨by decide +kernel, by decide +kernel⟩, by decide +kernel, by decide⟩, gTb_3 (List.mem_of_getElem? (i := 12) rfl) rfl, gTb_3 (List.mem_of_getElem? (i := 13) rfl) rfl⟩
set_option maxRecDepth 20000 in
theorem ck_X6_26 : gCalS RX6 26 yJ13_compare_74951 cJ13_compare_74951 4 (some .int) 2 := ⟨⟨gTb_5 (List.mem_of_getElem? (i := 85) rfl) rfl, gTb_5 (List.mem_of_getElem? (i := 87) rfl) rfl, gTb_1 (List.mem_of_getElem? (i := 21) rfl) rfl, ⟨by decide +kernel, by decide +kernel⟩, by decide +kernel, by decide⟩, gTb_5 (List.mem_of_getElem? (i := 86) rfl) rfl⟩
theorem fk_X11_77 : Cond.fieldLink RX11 77 "FigureTexts$Tool" "wants" "Ljava/lang/String;" ∈ gTb := gTb_11 (List.mem_of_getElem? (i := 213) rfl) rfl
set_option maxRecDepth 20000 in
theorem ck_X11_83 : gCalV RX11 83 yJ0_length_8abf5 cJ0_length_8abf5 1 (some .int) 0 := ⟨⟨gTb_4 (List.mem_of_getElem? (i := 224) rfl) rfl, gTb_3 (List.mem_of_getElem? (i := 14) rfl) rfl, gTb_1 (List.mem_of_getElem? (i := 14) rfl) rfl, ⟨by decide +kernel, by decide +kernel⟩, by decide +kernel, by decide⟩, gTb_3 (List.mem_of_getElem? (i := 12) rfl) rfl, gTb_3 (List.mem_of_getElem? (i := 13) rfl) rfl⟩
set_option maxRecDepth 20000 in
theorem ck_X11_89 : gCalV RX11 89 yJ0_charAt_5068e cJ0_charAt_5068e 2 (some .char) 1 := ⟨⟨gTb_4 (List.mem_of_getElem? (i := 226) rfl) rfl, gTb_3 (List.mem_of_getElem? (i := 96) rfl) rfl, gTb_1 (List.mem_of_getElem? (i := 14) rfl) rfl, ⟨by decide +kernel, by decide +kernel⟩, by decide +kernel, by decide⟩, gTb_3 (List.mem_of_getElem? (i := 94) rfl) rfl, gTb_3 (List.mem_of_getElem? (i := 95) rfl) rfl⟩
theorem fk_X11_97 : Cond.fieldLink RX11 97 "FigureTexts$Tool" "makes" "I" ∈ gTb := gTb_11 (List.mem_of_getElem? (i := 214) rfl) rfl
theorem fk_X11_122 : Cond.fieldLink RX11 122 "FigureTexts$Tool" "RING" "LFigureTexts$Tool;" ∈ gTb := gTb_5 (List.mem_of_getElem? (i := 176) rfl) rfl
theorem fk_X11_181 : Cond.fieldLink RX11 181 "FigureTexts$Tool" "POINTS" "LFigureTexts$Tool;" ∈ gTb := gTb_5 (List.mem_of_getElem? (i := 205) rfl) rfl
theorem fk_X11_184 : Cond.fieldLink RX11 184 "FigureTexts$Tool" "LINES" "LFigureTexts$Tool;" ∈ gTb := gTb_5 (List.mem_of_getElem? (i := 207) rfl) rfl
theorem fk_X11_187 : Cond.fieldLink RX11 187 "FigureTexts$Tool" "NUMBERS" "LFigureTexts$Tool;" ∈ gTb := gTb_5 (List.mem_of_getElem? (i := 209) rfl) rfl
theorem fk_X11_193 : Cond.fieldLink RX11 193 "FigureTexts$1" "$SwitchMap$FigureTexts$Tool" "[I" ∈ gTb := gTb_5 (List.mem_of_getElem? (i := 19) rfl) rfl
theorem fk_X11_291 : Cond.fieldLink RX11 291 "FigureTexts$Tool" "CIRCLE" "LFigureTexts$Tool;" ∈ gTb := gTb_5 (List.mem_of_getElem? (i := 194) rfl) rfl
theorem fk_Jx29ce0_7 : Cond.fieldLink RJx29ce0 7 "java/lang/Enum" "ordinal" "I" ∈ gTb := gTb_11 (List.mem_of_getElem? (i := 215) rfl) rfl
theorem fk_J0_9 : Cond.fieldLink RJ0 9 "java/lang/String" "value" "[B" ∈ gTb := gTb_11 (List.mem_of_getElem? (i := 210) rfl) rfl
theorem fk_J0_15 : Cond.fieldLink RJ0 15 "java/lang/String" "coder" "B" ∈ gTb := gTb_11 (List.mem_of_getElem? (i := 209) rfl) rfl
theorem fk_J0_38 : Cond.fieldLink RJ0 38 "java/lang/String" "COMPACT_STRINGS" "Z" ∈ gTb := gTb_3 (List.mem_of_getElem? (i := 9) rfl) rfl
set_option maxRecDepth 20000 in
theorem ck_J0_335 : gCalV RJ0 335 yJ0_coder_7d493 cJ0_coder_7d493 1 (some .byte) 0 := ⟨⟨gTb_3 (List.mem_of_getElem? (i := 15) rfl) rfl, gTb_3 (List.mem_of_getElem? (i := 18) rfl) rfl, gTb_1 (List.mem_of_getElem? (i := 14) rfl) rfl, ⟨by decide +kernel, by decide +kernel⟩, by decide +kernel, by decide⟩, gTb_3 (List.mem_of_getElem? (i := 16) rfl) rfl, gTb_3 (List.mem_of_getElem? (i := 17) rfl) rfl⟩
set_option maxRecDepth 20000 in
theorem ck_J0_492 : gCalV RJ0 492 yJ0_isLatin1_aae02 cJ0_isLatin1_aae02 1 (some .boolean) 0 := ⟨⟨gTb_3 (List.mem_of_getElem? (i := 5) rfl) rfl, gTb_3 (List.mem_of_getElem? (i := 8) rfl) rfl, gTb_1 (List.mem_of_getElem? (i := 14) rfl) rfl, ⟨by decide +kernel, by decide +kernel⟩, by decide +kernel, by decide⟩, gTb_3 (List.mem_of_getElem? (i := 6) rfl) rfl, gTb_3 (List.mem_of_getElem? (i := 7) rfl) rfl⟩
set_option maxRecDepth 20000 in
theorem ck_J0_495 : gCalS RJ0 495 yJ1_charAt_3b067 cJ1_charAt_3b067 2 (some .char) 2 := ⟨⟨gTb_3 (List.mem_of_getElem? (i := 97) rfl) rfl, gTb_3 (List.mem_of_getElem? (i := 99) rfl) rfl, gTb_1 (List.mem_of_getElem? (i := 15) rfl) rfl, ⟨by decide +kernel, by decide +kernel⟩, by decide +kernel, by decide⟩, gTb_3 (List.mem_of_getElem? (i := 98) rfl) rfl⟩
set_option maxRecDepth 20000 in
theorem ck_J0_505 : gCalV RJ0 505 yJ0_length_8abf5 cJ0_length_8abf5 1 (some .int) 0 := ⟨⟨gTb_3 (List.mem_of_getElem? (i := 11) rfl) rfl, gTb_3 (List.mem_of_getElem? (i := 14) rfl) rfl, gTb_1 (List.mem_of_getElem? (i := 14) rfl) rfl, ⟨by decide +kernel, by decide +kernel⟩, by decide +kernel, by decide⟩, gTb_3 (List.mem_of_getElem? (i := 12) rfl) rfl, gTb_3 (List.mem_of_getElem? (i := 13) rfl) rfl⟩
set_option maxRecDepth 20000 in
theorem ck_J0_633 : gCalV RJ0 633 yJ0_indexOf_7cf53 cJ0_indexOf_7cf53 3 (some .int) 2 := ⟨⟨gTb_3 (List.mem_of_getElem? (i := 1) rfl) rfl, gTb_3 (List.mem_of_getElem? (i := 4) rfl) rfl, gTb_1 (List.mem_of_getElem? (i := 14) rfl) rfl, ⟨by decide +kernel, by decide +kernel⟩, by decide +kernel, by decide⟩, gTb_3 (List.mem_of_getElem? (i := 2) rfl) rfl, gTb_3 (List.mem_of_getElem? (i := 3) rfl) rfl⟩
set_option maxRecDepth 20000 in
theorem ck_J0_637 : gCalS RJ0 637 yJ1_indexOf_4cfef cJ1_indexOf_4cfef 4 (some .int) 4 := ⟨⟨gTb_3 (List.mem_of_getElem? (i := 19) rfl) rfl, gTb_3 (List.mem_of_getElem? (i := 21) rfl) rfl, gTb_1 (List.mem_of_getElem? (i := 15) rfl) rfl, ⟨by decide +kernel, by decide +kernel⟩, by decide +kernel, by decide⟩, gTb_3 (List.mem_of_getElem? (i := 20) rfl) rfl⟩
theorem fk_J0_1053 : Cond.fieldLink RJ0 1053 "jdk/internal/util/Preconditions" "SIOOBE_FORMATTER" "Ljava/util/function/BiFunction;" ∈ gTb := gTb_3 (List.mem_of_getElem? (i := 52) rfl) rfl
set_option maxRecDepth 20000 in
theorem ck_J0_1059 : gCalS RJ0 1059 yJ3_checkIndex_8e157 cJ3_checkIndex_8e157 3 (some .int) 3 := ⟨⟨gTb_3 (List.mem_of_getElem? (i := 103) rfl) rfl, gTb_3 (List.mem_of_getElem? (i := 105) rfl) rfl, gTb_1 (List.mem_of_getElem? (i := 18) rfl) rfl, ⟨by decide +kernel, by decide +kernel⟩, by decide +kernel, by decide⟩, gTb_3 (List.mem_of_getElem? (i := 104) rfl) rfl⟩
set_option maxRecDepth 20000 in
theorem ck_J0_1062 : gCalS RJ0 1062 yJ3_checkFromToIndex_8c36e cJ3_checkFromToIndex_8c36e 4 (some .int) 4 := ⟨⟨gTb_3 (List.mem_of_getElem? (i := 54) rfl) rfl, gTb_3 (List.mem_of_getElem? (i := 56) rfl) rfl, gTb_1 (List.mem_of_getElem? (i := 18) rfl) rfl, ⟨by decide +kernel, by decide +kernel⟩, by decide +kernel, by decide⟩, gTb_3 (List.mem_of_getElem? (i := 55) rfl) rfl⟩
set_option maxRecDepth 20000 in
theorem ck_J1_9 : gCalS RJ1 9 yJ0_checkIndex_df160 cJ0_checkIndex_df160 2 none 2 := ⟨⟨gTb_3 (List.mem_of_getElem? (i := 100) rfl) rfl, gTb_3 (List.mem_of_getElem? (i := 102) rfl) rfl, gTb_1 (List.mem_of_getElem? (i := 14) rfl) rfl, ⟨by decide +kernel, by decide +kernel⟩, by decide +kernel, by decide⟩, gTb_3 (List.mem_of_getElem? (i := 101) rfl) rfl⟩
set_option maxRecDepth 20000 in
theorem ck_J1_88 : gCalS RJ1 88 yJ1_canEncode_9a6ad cJ1_canEncode_9a6ad 1 (some .boolean) 1 := ⟨⟨gTb_3 (List.mem_of_getElem? (i := 22) rfl) rfl, gTb_3 (List.mem_of_getElem? (i := 24) rfl) rfl, gTb_1 (List.mem_of_getElem? (i := 15) rfl) rfl, ⟨by decide +kernel, by decide +kernel⟩, by decide +kernel, by decide⟩, gTb_3 (List.mem_of_getElem? (i := 23) rfl) rfl⟩
set_option maxRecDepth 20000 in
theorem ck_J1_95 : gCalS RJ1 95 yJ1_indexOfChar_4cfef cJ1_indexOfChar_4cfef 6 (some .int) 4 := ⟨⟨gTb_3 (List.mem_of_getElem? (i := 31) rfl) rfl, gTb_3 (List.mem_of_getElem? (i := 33) rfl) rfl, gTb_1 (List.mem_of_getElem? (i := 15) rfl) rfl, ⟨by decide +kernel, by decide +kernel⟩, by decide +kernel, by decide⟩, gTb_3 (List.mem_of_getElem? (i := 32) rfl) rfl⟩
set_option maxRecDepth 20000 in
theorem cu_X11_198 : gCalU RX11 198 "FigureTexts$Tool" ⟨"FigureTexts$Tool", "ordinal", "()I"⟩ yJx29ce0_ordinal_8abf5 cJx29ce0_ordinal_8abf5 1 (some .int) 0 := ⟨⟨gTb_5 (List.mem_of_getElem? (i := 21) rfl) rfl, gTb_5 (List.mem_of_getElem? (i := 22) rfl) rfl, gTb_5 (List.mem_of_getElem? (i := 24) rfl) rfl, gTb_5 (List.mem_of_getElem? (i := 25) rfl) rfl, gTb_5 (List.mem_of_getElem? (i := 26) rfl) rfl, gTb_1 (List.mem_of_getElem? (i := 22) rfl) rfl⟩, rfl, ⟨by decide +kernel, by decide +kernel⟩, by decide +kernel, by decide⟩
theorem cw_X5_108 : Cond.fieldLinkNest "FigureTexts$Reader" 108 "FigureTexts" "TOOLS" "[LFigureTexts$Tool;" "FigureTexts" ∈ cNest := List.mem_of_getElem? (i := 6) rfl
theorem cw_X7_113 : Cond.fieldLinkNest "FigureTexts$Runner" 113 "FigureTexts" "TOOLS" "[LFigureTexts$Tool;" "FigureTexts" ∈ cNest := List.mem_of_getElem? (i := 13) rfl
theorem cw_X8_63 : Cond.fieldLinkNest "FigureTexts$Things" 63 "FigureTexts" "PARTS_OF_KIND" "[I" "FigureTexts" ∈ cNest := List.mem_of_getElem? (i := 15) rfl
