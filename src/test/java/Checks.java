/** What the tests share: calls are answered as texts, so that an exception is an answer too. */
final class Checks {
  interface Call {
    long run();
  }

  interface Question {
    boolean run();
  }

  static final String INDEX = "throws.IndexOutOfBoundsException";
  static final String ARGUMENT = "throws.IllegalArgumentException";
  static final String STATE = "throws.IllegalStateException";

  private static int wrong = 0;
  private static int asked = 0;

  private Checks() {}

  static String answer(Call call) {
    try {
      return Long.toString(call.run());
    } catch (RuntimeException e) {
      return "throws." + e.getClass().getSimpleName();
    }
  }

  static void due(String what, String got, String want) {
    asked++;
    if (!got.equals(want)) {
      wrong++;
      System.out.println(what + " answered " + got + ", due is " + want);
    }
  }

  static void due(String what, Call call, long want) {
    due(what, answer(call), Long.toString(want));
  }

  static void refused(String what, Call call, String want) {
    due(what, answer(call), want);
  }

  static void truth(String what, Question question, boolean want) {
    due(what, () -> question.run() ? 1 : 0, want ? 1 : 0);
  }

  static void refusedTruth(String what, Question question, String want) {
    refused(what, () -> question.run() ? 1 : 0, want);
  }

  /** All symbols of a term in prefix order, and that there is none behind them. */
  static void symbols(String what, TermLoom loom, int t, int... want) {
    for (int i = 0; i < want.length; i++) {
      int at = i;
      due(what + ", symbol " + i, () -> loom.symbol(t, at), want[i]);
    }
    refused(what + ", symbol behind", () -> loom.symbol(t, want.length), INDEX);
    refused(what + ", symbol -1", () -> loom.symbol(t, -1), INDEX);
  }

  static void typeSymbols(String what, TermLoom loom, int type, int... want) {
    for (int i = 0; i < want.length; i++) {
      int at = i;
      due(what + ", type symbol " + i, () -> loom.typeSymbol(type, at), want[i]);
    }
    refused(what + ", type symbol behind", () -> loom.typeSymbol(type, want.length), INDEX);
    refused(what + ", type symbol -1", () -> loom.typeSymbol(type, -1), INDEX);
  }

  static void end(String name) {
    System.out.println(name + ": " + asked + " answers, " + wrong + " not as due");
    if (wrong != 0) {
      System.exit(1);
    }
  }
}
