/-! Text: tables and readings, by program. Own work. -/

