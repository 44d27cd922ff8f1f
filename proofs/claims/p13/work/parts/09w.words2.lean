/-! further words -/
