/** A new object and its second model, and the questions that tell all about them. */
class Scene {
  private static final int CALLS = 512;

  final Twin twin = new Twin(getClass().getSimpleName());

  final int types() {
    return twin.plain.types.size();
  }

  final int terms() {
    return twin.plain.terms.size();
  }

  private boolean more(int calls) {
    return twin.calls() + calls <= CALLS;
  }

  private boolean threw() {
    return twin.latest.startsWith("throws");
  }

  /** Twins compare each answer, so after a refused call all must be as if it had not been made. */
  final void askAll() {
    askMatch();
    askNewest();
    askNext();
    askRoom();
  }

  private void askMatch() {
    int made = twin.plain.made();
    for (int i : new int[] {-1, 0, made - 1, made}) {
      if (more(1)) {
        twin.matched(i);
      }
    }
  }

  private void askNewest() {
    for (int t = terms() - 1; t >= 0 && t >= terms() - 3 && more(4); t--) {
      twin.measure(t, 0);
      twin.measure(t, 1);
      twin.symbol(t, 0);
      twin.symbol(t, (int) twin.plain.terms.get(t).symbols - 1);
    }
    for (int type = types() - 1; type >= 0 && type >= types() - 3 && more(2); type--) {
      twin.typeSymbol(type, 0);
      twin.typeSymbol(type, twin.plain.types.get(type).symbols - 1);
    }
  }

  /** All of the newest type and term, symbol by symbol. */
  final void tellNewest() {
    for (int i = 0; types() > 0 && i <= twin.plain.types.get(types() - 1).symbols && more(1); i++) {
      twin.typeSymbol(types() - 1, i);
    }
    for (int i = 0; terms() > 0 && i <= twin.plain.terms.get(terms() - 1).symbols && more(1); i++) {
      twin.symbol(terms() - 1, i);
    }
  }

  private void askNext() {
    if (more(4)) {
      twin.constructor(0);
      twin.declare(0);
      twin.typeVariable(0);
      twin.free(0, 0);
    }
  }

  /** How much there is room for, as far as calls are left. */
  private void askRoom() {
    int left = CALLS - twin.calls();
    for (int n = 0; n < left / 2 && (n == 0 || !threw()); n++) {
      twin.free(n, 0);
    }
    for (int n = 999; more(1) && (n == 999 || !threw()); n--) {
      twin.typeVariable(n);
    }
  }
}
