/** Promises 7 to 18 and 20, sentence by sentence. */
final class EdgesOfTerms {
  private static final int APPLICATION = -1;
  private static final int ABSTRACTION = -2;

  private EdgesOfTerms() {}

  static void all() {
    free();
    constant();
    apply();
    abstraction();
    part();
    open();
    put();
    retype();
    typeOf();
    symbol();
    measure();
    same();
    occurs();
  }

  /** A call whose term has so many symbols: it fills the room for all terms, or is one too large. */
  private static void filling(
      String promise, String sentence, int size, Edge.Step<Scenes.FullTerms> step) {
    new Edge<>(promise, sentence, () -> new Scenes.FullTerms(size))
        .allowed("30000 symbols together", step);
    new Edge<>(promise, sentence, () -> new Scenes.FullTerms(size - 1))
        .refused("30001 symbols together", step, Checks.STATE);
  }

  private static Edge<Scenes.FullTerms> whenFull(String promise, String sentence) {
    return new Edge<>(promise, sentence, () -> new Scenes.FullTerms(0));
  }

  private static void free() {
    String promise = "Promise 7";
    new Edge<>(promise, "A free variable.", Started::new)
        .answers("its symbol", s -> s.twin.symbol(s.twin.free(5, s.truths), 0), 21)
        .answers("its type", s -> s.twin.sameType(
            s.twin.typeOf(s.twin.free(5, s.endless)), s.endless), 1)
        .answers("one that is there already", s -> s.twin.same(s.twin.free(1, s.alpha), s.x), 1)
        .allowed("of the last type", s -> s.twin.free(5, s.types() - 1));
    new Edge<>(promise, "IndexOutOfBoundsException;", Started::new)
        .noType("no type", (s, wrong) -> s.twin.free(0, wrong))
        .noType("before a wrong number", (s, wrong) -> s.twin.free(1000, wrong));
    new Edge<>(promise, "IllegalArgumentException if n is not 0 .. 999;", Started::new)
        .within(0, 999, Checks.ARGUMENT, (s, n) -> s.twin.free(n, s.alpha))
        .answers("the least", s -> s.twin.symbol(s.twin.free(0, s.alpha), 0), 1)
        .answers("the most", s -> s.twin.symbol(s.twin.free(999, s.alpha), 0), 3997);
    String state = "IllegalStateException.";
    filling(promise, state, 1, s -> s.twin.free(5, s.alpha));
    whenFull(promise, state)
        .refused("a wrong number comes first", s -> s.twin.free(1000, s.alpha), Checks.ARGUMENT)
        .refused("no type comes first", s -> s.twin.free(0, s.types()), Checks.INDEX);
  }

  /** Constants of a variable, of functions, of truths, and of a further place. */
  private static final class Declared extends Started {
    final int beta = twin.typeVariable(1);
    final int list = twin.type(unary, alpha, 0);
    final int ofTruths = twin.type(2, truths, truths);
    final int mixed = twin.type(2, truths, things);
    final int three = twin.type(2, alpha, twin.type(2, beta, alpha));
    final int further = twin.type(2, truths, twin.type(2, things, truths));
    final int another = twin.type(2, truths, twin.type(2, truths, things));
    final int anything = declared;
    final int functions = twin.declare(endless);
    final int fixed = twin.declare(truths);
    final int lists = twin.declare(list);
    final int threePlaces = twin.declare(three);
  }

  private static void constant() {
    String promise = "Promise 8";
    new Edge<>(promise, "A constant of a type.", Declared::new)
        .answers("its symbol", s -> s.twin.symbol(s.twin.constant(s.functions, s.ofTruths), 0), 6)
        .answers("its type", s -> s.twin.sameType(
            s.twin.typeOf(s.twin.constant(s.functions, s.ofTruths)), s.ofTruths), 1);
    new Edge<>(promise, "IndexOutOfBoundsException (no such type);", Declared::new)
        .noType("no type", (s, wrong) -> s.twin.constant(s.anything, wrong))
        .noType("before no constant", (s, wrong) -> s.twin.constant(5, wrong));
    becoming(promise, "IllegalArgumentException if there is no such constant, or its own does not");
    String state = "IllegalStateException.";
    filling(promise, state, 1, s -> s.twin.constant(s.declared, s.endless));
    whenFull(promise, state)
        .refused("no constant comes first", s -> s.twin.constant(1, s.alpha), Checks.ARGUMENT)
        .refused("no type comes first", s -> s.twin.constant(0, s.types()), Checks.INDEX);
  }

  private static void becoming(String promise, String sentence) {
    new Edge<>(promise, sentence, Declared::new)
        .refused("no such constant", s -> s.twin.constant(5, s.three), Checks.ARGUMENT)
        .allowed("the last constant", s -> s.twin.constant(4, s.three))
        .allowed("a variable becomes itself", s -> s.twin.constant(s.anything, s.alpha))
        .allowed("another one", s -> s.twin.constant(s.anything, s.beta))
        .allowed("what has it within", s -> s.twin.constant(s.anything, s.endless))
        .allowed("functions become functions", s -> s.twin.constant(s.functions, s.ofTruths))
        .allowed("a further place, the same type", s -> s.twin.constant(s.threePlaces, s.further))
        .allowed("no variable", s -> s.twin.constant(s.fixed, s.truths));
    new Edge<>(promise, sentence, () -> new Scenes.Constants(3))
        .within(0, 2, Checks.ARGUMENT, (s, c) -> s.twin.constant(c, s.alpha));
    new Edge<>(promise, sentence, Declared::new)
        .refused("two types", s -> s.twin.constant(s.functions, s.mixed), Checks.ARGUMENT)
        .refused("a further place", s -> s.twin.constant(s.threePlaces, s.another), Checks.ARGUMENT)
        .refused("a variable", s -> s.twin.constant(s.functions, s.alpha), Checks.ARGUMENT)
        .refused("truths", s -> s.twin.constant(s.functions, s.truths), Checks.ARGUMENT)
        .refused("another constructor", s -> s.twin.constant(s.fixed, s.things), Checks.ARGUMENT)
        .refused("from truths to a variable", s -> s.twin.constant(s.fixed, s.alpha), Checks.ARGUMENT)
        .refused("functions for lists", s -> s.twin.constant(s.lists, s.endless), Checks.ARGUMENT)
        .refused("lists for functions", s -> s.twin.constant(s.functions, s.list), Checks.ARGUMENT);
    new Edge<>(promise, sentence, Scenes.LargeTypes::new)
        .allowed("200 symbols", s -> s.twin.constant(s.declared, s.most));
    for (Scenes.Way way : Scenes.Way.values()) {
      new Edge<>(promise, sentence, () -> new Scenes.HighTypes(way))
          .allowed("height 24", s -> s.twin.constant(s.twin.declare(s.height24), s.height24))
          .allowed("height 24 that becomes another type", s -> s.twin.constant(
              s.twin.declare(s.height24), s.twin.typeOf(s.twin.retype(s.of24, 0, s.truths))));
    }
    whenFull(promise, sentence)
        .refused("before too many", s -> s.twin.constant(-1, s.alpha), Checks.ARGUMENT);
  }

  private static final class Functions extends Started {
    final int pairs = twin.constructor(2);
    final int list = twin.free(5, twin.type(unary, alpha, 0));
    final int pair = twin.free(5, twin.type(pairs, alpha, alpha));
    final int ofTruths = twin.free(5, twin.type(2, truths, alpha));
  }

  private static void apply() {
    String promise = "Promise 9";
    new Edge<>(promise, "An application.", Started::new)
        .answers("its symbol", s -> s.twin.symbol(s.twin.apply(s.f, s.y), 0), APPLICATION)
        .answers("f", s -> s.twin.symbol(s.twin.apply(s.f, s.y), 1), 13)
        .answers("x", s -> s.twin.symbol(s.twin.apply(s.f, s.y), 2), 9)
        .answers("its type", s -> s.twin.sameType(
            s.twin.typeOf(s.twin.apply(s.g, s.y)), s.endless), 1)
        .allowed("of an abstraction", s -> s.twin.apply(s.over, s.c))
        .allowed("of an application", s -> s.twin.apply(s.gx, s.fx));
    new Edge<>(promise, "IndexOutOfBoundsException;", Started::new)
        .noTerm("no f", (s, wrong) -> s.twin.apply(wrong, s.x))
        .noTerm("no x", (s, wrong) -> s.twin.apply(s.f, wrong))
        .noTerm("no x before no functions", (s, wrong) -> s.twin.apply(s.x, wrong))
        .allowed("the last term is there", s -> s.twin.apply(s.terms() - 1, s.x));
    String other = "IllegalArgumentException if f is not of functions from x's type;";
    new Edge<>(promise, other, Functions::new)
        .allowed("from x's type", s -> s.twin.apply(s.ofTruths, s.truth))
        .refused("from another type", s -> s.twin.apply(s.ofTruths, s.x), Checks.ARGUMENT)
        .refused("from a variable's type", s -> s.twin.apply(s.f, s.truth), Checks.ARGUMENT)
        .refused("to x's type alone", s -> s.twin.apply(s.f, s.f), Checks.ARGUMENT)
        .refused("of a variable", s -> s.twin.apply(s.x, s.x), Checks.ARGUMENT)
        .refused("of truths", s -> s.twin.apply(s.truth, s.x), Checks.ARGUMENT)
        .refused("of one type", s -> s.twin.apply(s.list, s.x), Checks.ARGUMENT)
        .refused("of two types, but no functions", s -> s.twin.apply(s.pair, s.x), Checks.ARGUMENT);
    applyLimits(promise, "IllegalStateException.");
  }

  private static void applyLimits(String promise, String state) {
    new Edge<>(promise, state, () -> new Scenes.LargeTerm(3998))
        .allowed("4000 symbols", s -> s.twin.apply(s.f, s.large));
    new Edge<>(promise, state, () -> new Scenes.LargeTerm(3999))
        .refused("4001 symbols", s -> s.twin.apply(s.f, s.large), Checks.STATE)
        .refused("a wrong argument comes first", s -> s.twin.apply(s.large, s.large), Checks.ARGUMENT)
        .refused("no term comes first", s -> s.twin.apply(s.terms(), s.large), Checks.INDEX);
    new Edge<>(promise, state, () -> new OfLarge(3996))
        .allowed("4000 symbols by f", s -> s.twin.apply(s.ofLarge, s.x));
    new Edge<>(promise, state, () -> new OfLarge(3997))
        .refused("4001 symbols by f", s -> s.twin.apply(s.ofLarge, s.x), Checks.STATE);
    new Edge<>(promise, state, () -> new OfLarge(1997))
        .allowed("3997 symbols by both", s -> s.twin.apply(s.ofLarge, s.large));
    new Edge<>(promise, state, () -> new OfLarge(1999))
        .refused("4001 symbols by both", s -> s.twin.apply(s.ofLarge, s.large), Checks.STATE);
    new Edge<>(promise, state, Scenes.HighTerms::new)
        .allowed("height 120", s -> s.twin.apply(s.f, s.height119))
        .refused("height 121", s -> s.twin.apply(s.f, s.height120), Checks.STATE)
        .refused("a wrong argument comes first", s -> s.twin.apply(s.x, s.height120), Checks.ARGUMENT)
        .refused("no term comes first", s -> s.twin.apply(-1, s.height120), Checks.INDEX);
    new Edge<>(promise, state, Scenes.HighFunctions::new)
        .allowed("height 120 by f", s -> s.twin.apply(s.height119, s.x))
        .refused("height 121 by f", s -> s.twin.apply(s.height120, s.x), Checks.STATE);
    filling(promise, state, 3, s -> s.twin.apply(s.f, s.x));
    filling(promise, state, 7, s -> s.twin.apply(s.gx, s.fx));
    whenFull(promise, state)
        .refused("a wrong argument comes first", s -> s.twin.apply(s.x, s.x), Checks.ARGUMENT)
        .refused("no term comes first", s -> s.twin.apply(s.x, s.terms()), Checks.INDEX);
  }

  private static final class OfLarge extends Started {
    final int large;
    final int ofLarge;

    OfLarge(int size) {
      large = termOfSize(size);
      ofLarge = twin.apply(g, large);
    }
  }

  private static void abstraction() {
    String promise = "Promise 10";
    new Edge<>(promise, "An abstraction over a free variable: all of it in the body are bound.",
        Started::new)
        .answers("its symbol", s -> s.twin.symbol(s.twin.abstraction(s.y, s.gxy), 0), ABSTRACTION)
        .answers("y is bound", s -> s.twin.symbol(s.twin.abstraction(s.y, s.gxy), 5), 0)
        .answers("x is not", s -> s.twin.symbol(s.twin.abstraction(s.y, s.gxy), 4), 5)
        .answers("the first place", s -> s.twin.symbol(
            s.twin.abstraction(s.x, s.twin.apply(s.gx, s.x)), 4), 0)
        .answers("the last place", s -> s.twin.symbol(
            s.twin.abstraction(s.x, s.twin.apply(s.gx, s.x)), 5), 0)
        .answers("nothing to bind", s -> s.twin.symbol(s.twin.abstraction(s.y, s.fx), 3), 5)
        .answers("another type's number", s -> s.twin.symbol(s.twin.abstraction(s.truth, s.fx), 3), 5)
        .answers("what is bound stays so", s -> s.twin.symbol(s.twin.abstraction(s.x, s.over), 4), 0)
        .answers("bound from farther", s -> s.twin.symbol(s.twin.abstraction(s.x, s.idle), 2), 4);
    new Edge<>(promise, "IndexOutOfBoundsException;", Started::new)
        .noTerm("no v", (s, wrong) -> s.twin.abstraction(wrong, s.x))
        .noTerm("no body", (s, wrong) -> s.twin.abstraction(s.x, wrong))
        .noTerm("no body before no variable", (s, wrong) -> s.twin.abstraction(s.c, wrong))
        .allowed("the last term is there", s -> s.twin.abstraction(s.x, s.terms() - 1));
    new Edge<>(promise, "IllegalArgumentException if v is no free variable;", Started::new)
        .allowed("of functions", s -> s.twin.abstraction(s.f, s.fx))
        .refused("a constant", s -> s.twin.abstraction(s.c, s.x), Checks.ARGUMENT)
        .refused("an application", s -> s.twin.abstraction(s.fx, s.x), Checks.ARGUMENT)
        .refused("an abstraction", s -> s.twin.abstraction(s.self, s.x), Checks.ARGUMENT);
    abstractionLimits(promise, "IllegalStateException.");
    abstractionTypes(promise, "IllegalStateException.");
  }

  private static void abstractionLimits(String promise, String state) {
    new Edge<>(promise, state, () -> new Scenes.LargeTerm(3999))
        .allowed("4000 symbols", s -> s.twin.abstraction(s.x, s.large));
    new Edge<>(promise, state, () -> new Scenes.LargeTerm(4000))
        .refused("4001 symbols", s -> s.twin.abstraction(s.x, s.large), Checks.STATE)
        .refused("4001 symbols, none bound", s -> s.twin.abstraction(s.y, s.large), Checks.STATE)
        .refused("no variable comes first", s -> s.twin.abstraction(s.c, s.large), Checks.ARGUMENT)
        .refused("no term comes first", s -> s.twin.abstraction(s.terms(), s.large), Checks.INDEX);
    new Edge<>(promise, state, Scenes.HighTerms::new)
        .allowed("height 120", s -> s.twin.abstraction(s.x, s.height119))
        .refused("height 121", s -> s.twin.abstraction(s.x, s.height120), Checks.STATE)
        .refused("no variable comes first", s -> s.twin.abstraction(s.c, s.height120), Checks.ARGUMENT);
    filling(promise, state, 4, s -> s.twin.abstraction(s.x, s.fx));
    whenFull(promise, state)
        .refused("no variable comes first", s -> s.twin.abstraction(s.c, s.x), Checks.ARGUMENT)
        .refused("no term comes first", s -> s.twin.abstraction(s.c, s.terms()), Checks.INDEX);
  }

  private static void abstractionTypes(String promise, String state) {
    new Edge<>(promise, state, Scenes.LargeTypes::new)
        .allowed("a type of 200 symbols", s -> s.twin.abstraction(s.ofHundred, s.ofNinetyNine))
        .allowed("the other way", s -> s.twin.abstraction(s.ofNinetyNine, s.ofHundred))
        .refused("a type of 201", s -> s.twin.abstraction(s.ofHundred, s.ofHundred), Checks.STATE)
        .refused("a variable of 200", s -> s.twin.abstraction(s.ofMost, s.x), Checks.STATE)
        .refused("no variable comes first", s -> s.twin.abstraction(s.c, s.ofMost), Checks.ARGUMENT);
    for (Scenes.Way way : Scenes.Way.values()) {
      new Edge<>(promise, state, () -> new Scenes.HighTypes(way))
          .allowed("a variable of height 23", s -> s.twin.abstraction(s.of23, s.x))
          .allowed("a body of height 23", s -> s.twin.abstraction(s.x, s.of23))
          .refused("a variable of height 24", s -> s.twin.abstraction(s.of24, s.x), Checks.STATE)
          .refused("a body of height 24", s -> s.twin.abstraction(s.x, s.of24), Checks.STATE);
    }
    new Edge<>(promise, state, () -> new Scenes.ManyTypes(1))
        .allowed("8000 different types", s -> s.twin.abstraction(s.truth, s.truth))
        .refused("too high, with a new type", s -> s.twin.abstraction(s.truth, s.height120), Checks.STATE);
    new Edge<>(promise, state, () -> new Scenes.ManyTypes(0))
        .allowed("of a type that is there", s -> s.twin.abstraction(s.y, s.y))
        .refused("8001 types", s -> s.twin.abstraction(s.truth, s.truth), Checks.STATE)
        .refused("no variable comes first", s -> s.twin.abstraction(s.c, s.truth), Checks.ARGUMENT);
  }

  private static void part() {
    String promise = "Promise 11";
    new Edge<>(promise, "A term's part: of an application f (0), x (1).", Started::new)
        .answers("f", s -> s.twin.same(s.twin.part(s.gxy, 0), s.gx), 1)
        .answers("x", s -> s.twin.same(s.twin.part(s.gxy, 1), s.y), 1)
        .answers("an abstraction", s -> s.twin.same(
            s.twin.part(s.twin.apply(s.over, s.x), 0), s.over), 1)
        .answers("behind an abstraction", s -> s.twin.same(
            s.twin.part(s.twin.apply(s.over, s.gxy), 1), s.gxy), 1);
    new Edge<>(promise, "IndexOutOfBoundsException;", Started::new)
        .noTerm("no term", (s, wrong) -> s.twin.part(wrong, 0))
        .noTerm("before no such part", (s, wrong) -> s.twin.part(wrong, 2));
    String other = "IllegalArgumentException if it is no application, or there is no such part;";
    new Edge<>(promise, other, Started::new)
        .within(0, 1, Checks.ARGUMENT, (s, which) -> s.twin.part(s.gxy, which))
        .refused("a variable", s -> s.twin.part(s.x, 0), Checks.ARGUMENT)
        .refused("a constant", s -> s.twin.part(s.c, 1), Checks.ARGUMENT)
        .refused("an abstraction", s -> s.twin.part(s.over, 0), Checks.ARGUMENT)
        .refused("an abstraction's body", s -> s.twin.part(s.over, 1), Checks.ARGUMENT);
    String state = "IllegalStateException.";
    filling(promise, state, 1, s -> s.twin.part(s.gxy, 1));
    filling(promise, state, 3, s -> s.twin.part(s.gxy, 0));
    whenFull(promise, state)
        .refused("no application comes first", s -> s.twin.part(s.x, 0), Checks.ARGUMENT)
        .refused("no part comes first", s -> s.twin.part(s.gxy, 2), Checks.ARGUMENT)
        .refused("no term comes first", s -> s.twin.part(s.terms(), 0), Checks.INDEX);
    new Edge<>(promise, state, Scenes.HighTerms::new)
        .answers("of height 120", s -> s.twin.measure(s.twin.part(s.height120, 1), 1), 119);
  }

  private static void open() {
    String promise = "Promise 12";
    new Edge<>(promise, "An abstraction opened with a term.", Started::new)
        .answers("its body", s -> s.twin.same(s.twin.open(s.over, s.x), s.fx), 1)
        .answers("another term", s -> s.twin.symbol(s.twin.open(s.over, s.c), 2), 2)
        .answers("the variable alone", s -> s.twin.same(s.twin.open(s.self, s.gxy), s.gxy), 1)
        .answers("nothing bound", s -> s.twin.same(s.twin.open(s.idle, s.gxy), s.x), 1);
    new Edge<>(promise, "IndexOutOfBoundsException;", Started::new)
        .noTerm("no t", (s, wrong) -> s.twin.open(wrong, s.x))
        .noTerm("no s", (s, wrong) -> s.twin.open(s.over, wrong))
        .noTerm("no s before no abstraction", (s, wrong) -> s.twin.open(s.x, wrong));
    String other = "IllegalArgumentException if t is no abstraction, or s is of another type;";
    new Edge<>(promise, other, Started::new)
        .refused("a variable", s -> s.twin.open(s.x, s.x), Checks.ARGUMENT)
        .refused("a variable of functions", s -> s.twin.open(s.f, s.x), Checks.ARGUMENT)
        .refused("a constant", s -> s.twin.open(s.c, s.x), Checks.ARGUMENT)
        .refused("an application of functions", s -> s.twin.open(s.gx, s.x), Checks.ARGUMENT)
        .refused("with a truth", s -> s.twin.open(s.over, s.truth), Checks.ARGUMENT)
        .refused("with functions", s -> s.twin.open(s.over, s.f), Checks.ARGUMENT)
        .refused("with a truth, nothing bound", s -> s.twin.open(s.idle, s.truth), Checks.ARGUMENT);
    openLimits(promise, "IllegalStateException.");
  }

  private static void openLimits(String promise, String state) {
    new Edge<>(promise, state, () -> new Scenes.LargeTerm(3998))
        .allowed("4000 symbols", s -> s.twin.open(s.over, s.large));
    new Edge<>(promise, state, () -> new Scenes.LargeTerm(3999))
        .refused("4001 symbols", s -> s.twin.open(s.over, s.large), Checks.STATE)
        .refused("far more symbols", s -> s.twin.open(s.overTwice, s.large), Checks.STATE)
        .refused("no abstraction comes first", s -> s.twin.open(s.fx, s.large), Checks.ARGUMENT)
        .refused("no term comes first", s -> s.twin.open(s.terms(), s.large), Checks.INDEX);
    new Edge<>(promise, state, () -> new Scenes.LargeTerm(4000))
        .allowed("4000 symbols, the variable alone", s -> s.twin.open(s.self, s.large))
        .allowed("4000 symbols that go nowhere", s -> s.twin.open(s.idle, s.large));
    new Edge<>(promise, state, () -> new Scenes.LargeTerm(1998))
        .allowed("3999 symbols by two places", s -> s.twin.open(s.overTwice, s.large));
    new Edge<>(promise, state, () -> new Scenes.LargeTerm(1999))
        .refused("4001 symbols by two places", s -> s.twin.open(s.overTwice, s.large), Checks.STATE);
    new Edge<>(promise, state, Scenes.HighTerms::new)
        .allowed("height 120", s -> s.twin.open(s.over61, s.height60))
        .refused("height 121", s -> s.twin.open(s.over61, s.height61), Checks.STATE)
        .allowed("height 120, the variable alone", s -> s.twin.open(s.self, s.height120))
        .allowed("height 120 that goes nowhere", s -> s.twin.open(s.idle, s.height120))
        .refused("another type comes first", s -> s.twin.open(s.over61, s.over61), Checks.ARGUMENT);
    filling(promise, state, 5, s -> s.twin.open(s.over, s.fx));
    filling(promise, state, 1, s -> s.twin.open(s.idle, s.gxy));
    whenFull(promise, state)
        .refused("no abstraction comes first", s -> s.twin.open(s.x, s.x), Checks.ARGUMENT)
        .refused("another type comes first", s -> s.twin.open(s.over, s.truth), Checks.ARGUMENT)
        .refused("no term comes first", s -> s.twin.open(s.x, s.terms()), Checks.INDEX);
  }

  private static void put() {
    String promise = "Promise 13";
    new Edge<>(promise, "s put in for v in t.", Started::new)
        .answers("s is there", s -> s.twin.symbol(s.twin.put(s.gxy, s.x, s.c), 3), 2)
        .answers("the rest is as it was", s -> s.twin.symbol(s.twin.put(s.gxy, s.x, s.c), 4), 9)
        .answers("v alone", s -> s.twin.same(s.twin.put(s.x, s.x, s.gxy), s.gxy), 1)
        .answers("v is not there", s -> s.twin.same(s.twin.put(s.fx, s.y, s.gxy), s.fx), 1)
        .answers("v is bound", s -> s.twin.same(s.twin.put(s.over, s.x, s.gxy), s.over), 1)
        .answers("v for itself", s -> s.twin.same(s.twin.put(s.gxy, s.x, s.x), s.gxy), 1)
        .answers("functions", s -> s.twin.same(
            s.twin.put(s.fx, s.f, s.self), s.twin.apply(s.self, s.x)), 1);
    new Edge<>(promise, "IndexOutOfBoundsException;", Started::new)
        .noTerm("no t", (s, wrong) -> s.twin.put(wrong, s.x, s.y))
        .noTerm("no v", (s, wrong) -> s.twin.put(s.fx, wrong, s.y))
        .noTerm("no s", (s, wrong) -> s.twin.put(s.fx, s.x, wrong))
        .noTerm("no s before no variable", (s, wrong) -> s.twin.put(s.fx, s.c, wrong))
        .noTerm("no t before another type", (s, wrong) -> s.twin.put(wrong, s.x, s.truth));
    String other = "IllegalArgumentException if v is no free variable, or s is of another type;";
    new Edge<>(promise, other, Started::new)
        .refused("a constant", s -> s.twin.put(s.c, s.c, s.x), Checks.ARGUMENT)
        .refused("an application", s -> s.twin.put(s.fx, s.fx, s.x), Checks.ARGUMENT)
        .refused("an abstraction", s -> s.twin.put(s.over, s.self, s.f), Checks.ARGUMENT)
        .refused("a truth", s -> s.twin.put(s.fx, s.x, s.truth), Checks.ARGUMENT)
        .refused("functions", s -> s.twin.put(s.fx, s.x, s.f), Checks.ARGUMENT)
        .refused("a truth, v not there", s -> s.twin.put(s.fx, s.y, s.truth), Checks.ARGUMENT);
    putLimits(promise, "IllegalStateException.");
  }

  private static void putLimits(String promise, String state) {
    new Edge<>(promise, state, () -> new Scenes.LargeTerm(3998))
        .allowed("4000 symbols", s -> s.twin.put(s.fx, s.x, s.large));
    new Edge<>(promise, state, () -> new Scenes.LargeTerm(3999))
        .refused("4001 symbols", s -> s.twin.put(s.fx, s.x, s.large), Checks.STATE)
        .refused("far more symbols", s -> s.twin.put(s.large, s.x, s.large), Checks.STATE)
        .refused("no variable comes first", s -> s.twin.put(s.fx, s.c, s.large), Checks.ARGUMENT)
        .refused("no term comes first", s -> s.twin.put(s.fx, s.terms(), s.large), Checks.INDEX);
    new Edge<>(promise, state, () -> new Scenes.LargeTerm(4000))
        .allowed("4000 symbols, v alone", s -> s.twin.put(s.x, s.x, s.large))
        .allowed("4000 symbols, v not there", s -> s.twin.put(s.large, s.y, s.large))
        .allowed("4000 symbols, as many as before", s -> s.twin.put(s.large, s.x, s.y))
        .allowed("4000 symbols that go nowhere", s -> s.twin.put(s.fx, s.y, s.large));
    new Edge<>(promise, state, () -> new Scenes.LargeTerm(1998))
        .allowed("3999 symbols by two places", s -> s.twin.put(s.twice, s.x, s.large));
    new Edge<>(promise, state, () -> new Scenes.LargeTerm(1999))
        .refused("4001 symbols by two places", s -> s.twin.put(s.twice, s.x, s.large), Checks.STATE);
    new Edge<>(promise, state, Scenes.HighTerms::new)
        .allowed("height 120", s -> s.twin.put(s.height61, s.x, s.height60))
        .refused("height 121", s -> s.twin.put(s.height61, s.x, s.height61), Checks.STATE)
        .allowed("height 120, v alone", s -> s.twin.put(s.x, s.x, s.height120))
        .allowed("height 120 that goes nowhere", s -> s.twin.put(s.height120, s.y, s.height120))
        .refused("another type comes first", s -> s.twin.put(s.height120, s.x, s.f), Checks.ARGUMENT);
    filling(promise, state, 7, s -> s.twin.put(s.fx, s.x, s.gxy));
    filling(promise, state, 3, s -> s.twin.put(s.fx, s.y, s.gxy));
    whenFull(promise, state)
        .refused("no variable comes first", s -> s.twin.put(s.x, s.c, s.x), Checks.ARGUMENT)
        .refused("another type comes first", s -> s.twin.put(s.x, s.x, s.truth), Checks.ARGUMENT)
        .refused("no term comes first", s -> s.twin.put(s.x, s.c, s.terms()), Checks.INDEX);
  }

  private static void retype() {
    String promise = "Promise 14";
    new Edge<>(promise, "A type put in for type variable n in a term.", Started::new)
        .answers("its type", s -> s.twin.sameType(
            s.twin.typeOf(s.twin.retype(s.x, 0, s.truths)), s.truths), 1)
        .answers("its symbols stay", s -> s.twin.symbol(s.twin.retype(s.gxy, 0, s.truths), 4), 9)
        .answers("another number", s -> s.twin.same(s.twin.retype(s.gxy, 1, s.truths), s.gxy), 1)
        .answers("itself", s -> s.twin.same(s.twin.retype(s.gxy, 0, s.alpha), s.gxy), 1)
        .answers("once, not again", s -> s.twin.sameType(
            s.twin.typeOf(s.twin.retype(s.x, 0, s.endless)), s.endless), 1)
        .answers("x is the truth now", s -> s.twin.same(
            s.twin.retype(s.x, 0, s.truths), s.truth), 1);
    new Edge<>(promise, "IndexOutOfBoundsException;", Started::new)
        .noTerm("no term", (s, wrong) -> s.twin.retype(wrong, 0, s.truths))
        .noType("no type", (s, wrong) -> s.twin.retype(s.x, 0, wrong))
        .noTerm("no term before a wrong number", (s, wrong) -> s.twin.retype(wrong, 1000, s.truths))
        .noType("no type before a wrong number", (s, wrong) -> s.twin.retype(s.x, -1, wrong))
        .allowed("the last ones", s -> s.twin.retype(s.terms() - 1, 0, s.types() - 1));
    new Edge<>(promise, "IllegalArgumentException if n is not 0 .. 999;", Started::new)
        .within(0, 999, Checks.ARGUMENT, (s, n) -> s.twin.retype(s.x, n, s.truths))
        .answers("the most", s -> s.twin.same(s.truth, s.twin.retype(
            s.twin.free(1, s.twin.typeVariable(999)), 999, s.truths)), 1);
    String state = "IllegalStateException (a type within it would be too large, too).";
    retypeLarge(promise, state);
    retypeHigh(promise, state);
    retypeMany(promise, state);
  }

  private static void retypeLarge(String promise, String state) {
    new Edge<>(promise, state, Scenes.LargeTypes::new)
        .allowed("a variable of 200", s -> s.twin.retype(s.ofList, 0, s.nearly))
        .refused("a variable of 201", s -> s.twin.retype(s.ofList, 0, s.most), Checks.STATE)
        .allowed("a constant of 200", s -> s.twin.retype(s.constantOfList, 0, s.nearly))
        .refused("a constant of 201", s -> s.twin.retype(s.constantOfList, 0, s.most), Checks.STATE)
        .allowed("an abstraction of 200", s -> s.twin.retype(s.toList, 0, s.ninetyNine))
        .refused("an abstraction of 202", s -> s.twin.retype(s.toList, 0, s.hundred), Checks.STATE)
        .allowed("an abstraction of 199", s -> s.twin.retype(s.self, 0, s.ninetyNine))
        .refused("an abstraction of 201", s -> s.twin.retype(s.self, 0, s.hundred), Checks.STATE)
        .allowed("functions of 199", s -> s.twin.retype(s.fx, 0, s.ninetyNine))
        .refused("functions of 201", s -> s.twin.retype(s.fx, 0, s.hundred), Checks.STATE)
        .allowed("199 within", s -> s.twin.retype(s.applied, 0, s.ninetyNine))
        .refused("201 within", s -> s.twin.retype(s.applied, 0, s.hundred), Checks.STATE)
        .allowed("the variable itself, of 200", s -> s.twin.retype(s.x, 0, s.most))
        .allowed("200 that go nowhere", s -> s.twin.retype(s.applied, 1, s.most))
        .refused("a wrong number comes first", s -> s.twin.retype(s.self, 1000, s.most), Checks.ARGUMENT)
        .refused("no type comes first", s -> s.twin.retype(s.self, 0, s.types()), Checks.INDEX);
    new Edge<>(promise, state, ListFunctions::new)
        .allowed("from 198", s -> s.twin.retype(s.fromList, 0, s.all197))
        .refused("from 199", s -> s.twin.retype(s.fromList, 0, s.all198), Checks.STATE)
        .refused("from 201", s -> s.twin.retype(s.fromList, 0, s.all200), Checks.STATE)
        .allowed("to 198", s -> s.twin.retype(s.toList, 0, s.all197))
        .refused("to 199", s -> s.twin.retype(s.toList, 0, s.all198), Checks.STATE)
        .refused("to 201", s -> s.twin.retype(s.toList, 0, s.all200), Checks.STATE);
  }

  /** Functions from and to lists, of which the other side does not change. */
  private static final class ListFunctions extends Started {
    final int list = twin.type(unary, alpha, 0);
    final int fromList = twin.free(5, twin.type(2, list, truths));
    final int toList = twin.free(5, twin.type(2, truths, list));
    final int all197 = typeOfSize(197);
    final int all198 = twin.type(unary, all197, 0);
    final int all200 = twin.type(unary, twin.type(unary, all198, 0), 0);
  }

  private static void retypeHigh(String promise, String state) {
    for (Scenes.Way way : Scenes.Way.values()) {
      new Edge<>(promise, state, () -> new Scenes.HighTypes(way))
          .allowed("a variable of height 24", s -> s.twin.retype(s.ofLow, 0, s.height23))
          .refused("a variable of height 25", s -> s.twin.retype(s.ofLow, 0, s.height24), Checks.STATE)
          .allowed("a constant of height 24", s -> s.twin.retype(s.constantOfLow, 0, s.height23))
          .refused("a constant of 25", s -> s.twin.retype(s.constantOfLow, 0, s.height24), Checks.STATE)
          .allowed("an abstraction of height 24", s -> s.twin.retype(s.self, 0, s.height23))
          .refused("an abstraction of 25", s -> s.twin.retype(s.self, 0, s.height24), Checks.STATE)
          .refused("one that binds nothing", s -> s.twin.retype(s.idle, 0, s.height24), Checks.STATE)
          .allowed("height 24 within", s -> s.twin.retype(s.applied, 0, s.height23))
          .refused("height 25 within", s -> s.twin.retype(s.applied, 0, s.height24), Checks.STATE)
          .allowed("the variable itself, of 24", s -> s.twin.retype(s.x, 0, s.height24))
          .allowed("a variable of height 24 as it is", s -> s.twin.retype(s.of24, 0, s.truths))
          .refused("height 25 by two", s -> s.twin.retype(s.of24, 0, s.low), Checks.STATE)
          .refused("height 25 by functions", s -> s.twin.retype(s.g, 0, s.height23), Checks.STATE)
          .answers("what it made is made again, as one type", s -> {
            s.twin.retype(s.g, 0, s.height23);
            int again = s.twin.type(2, s.height23, s.height23);
            s.twin.sameType(again, s.twin.typeOf(s.twin.abstraction(s.of23, s.of23)));
          }, 1);
    }
  }

  private static void retypeMany(String promise, String state) {
    filling(promise, state, 5, s -> s.twin.retype(s.gxy, 0, s.truths));
    whenFull(promise, state)
        .refused("a wrong number comes first", s -> s.twin.retype(s.x, 1000, s.truths), Checks.ARGUMENT)
        .refused("no term comes first", s -> s.twin.retype(s.terms(), 0, s.truths), Checks.INDEX)
        .refused("no type comes first", s -> s.twin.retype(s.x, -1, s.types()), Checks.INDEX);
    new Edge<>(promise, state, () -> new Scenes.ManyTypes(2))
        .allowed("8000 types by two", s -> s.twin.retype(s.ofTwo, 0, s.truths));
    new Edge<>(promise, state, () -> new Scenes.ManyTypes(1))
        .refused("8001 types by two", s -> s.twin.retype(s.ofTwo, 0, s.truths), Checks.STATE)
        .allowed("8000 types by one", s -> s.twin.retype(s.fx, 0, s.truths));
    new Edge<>(promise, state, () -> new Scenes.ManyTypes(0))
        .refused("8001 types by one", s -> s.twin.retype(s.fx, 0, s.truths), Checks.STATE)
        .allowed("types that are there", s -> s.twin.retype(s.ofTwo, 0, s.alpha))
        .allowed("a type that is there", s -> s.twin.retype(s.x, 0, s.truths))
        .refused("a wrong number comes first", s -> s.twin.retype(s.fx, -1, s.truths), Checks.ARGUMENT);
  }

  private static void typeOf() {
    String promise = "Promise 15";
    new Edge<>(promise, "A term's type, as a new handle.", Started::new)
        .answers("a variable's", s -> s.twin.sameType(s.twin.typeOf(s.g), s.twoPlaces), 1)
        .answers("an application's", s -> s.twin.sameType(s.twin.typeOf(s.gx), s.endless), 1)
        .answers("an abstraction's", s -> s.twin.sameType(s.twin.typeOf(s.over), s.endless), 1)
        .answers("a constant's", s -> s.twin.sameType(s.twin.typeOf(s.c), s.alpha), 1)
        .answers("a new handle", s -> s.twin.typeOf(s.x), 5);
    new Edge<>(promise, "IndexOutOfBoundsException;", Started::new)
        .noTerm("no term", (s, wrong) -> s.twin.typeOf(wrong))
        .allowed("the last term", s -> s.twin.typeOf(s.terms() - 1));
    String state = "IllegalStateException.";
    new Edge<>(promise, state, () -> new Scenes.FullTypes(5))
        .allowed("6000 symbols together by 5", s -> s.twin.typeOf(s.g));
    new Edge<>(promise, state, () -> new Scenes.FullTypes(4))
        .refused("6001 symbols together by 5", s -> s.twin.typeOf(s.g), Checks.STATE);
    new Edge<>(promise, state, () -> new Scenes.FullTypes(1))
        .allowed("6000 symbols together by 1", s -> s.twin.typeOf(s.x));
    new Edge<>(promise, state, () -> new Scenes.FullTypes(0))
        .refused("6001 symbols together by 1", s -> s.twin.typeOf(s.x), Checks.STATE)
        .refused("no term comes first", s -> s.twin.typeOf(s.terms()), Checks.INDEX);
    new Edge<>(promise, state, () -> new Scenes.ManyTypes(0))
        .allowed("it is there already", s -> s.twin.typeOf(s.f));
  }

  private static void symbol() {
    String promise = "Promise 16";
    new Edge<>(promise, "A term's symbol i in prefix order.", Started::new)
        .answers("0", s -> s.twin.symbol(s.gxy, 0), APPLICATION)
        .answers("1", s -> s.twin.symbol(s.gxy, 1), APPLICATION)
        .answers("2", s -> s.twin.symbol(s.gxy, 2), 17)
        .answers("3", s -> s.twin.symbol(s.gxy, 3), 5)
        .answers("4", s -> s.twin.symbol(s.gxy, 4), 9);
    String none = "IndexOutOfBoundsException if there is no such term or symbol.";
    new Edge<>(promise, none, Started::new)
        .within(0, 4, Checks.INDEX, (s, i) -> s.twin.symbol(s.gxy, i))
        .within(0, 0, Checks.INDEX, (s, i) -> s.twin.symbol(s.x, i))
        .noTerm("no term", (s, wrong) -> s.twin.symbol(wrong, 0))
        .noTerm("no term and no symbol", (s, wrong) -> s.twin.symbol(wrong, -1))
        .allowed("the last term", s -> s.twin.symbol(s.terms() - 1, 0));
    new Edge<>(promise, none, () -> new Scenes.LargeTerm(4000))
        .within(0, 3999, Checks.INDEX, (s, i) -> s.twin.symbol(s.large, i));
  }

  private static void measure() {
    String promise = "Promise 17";
    new Edge<>(promise, "How many symbols a term has (what = 0), its height (1).", Started::new)
        .answers("symbols", s -> s.twin.measure(s.gxy, 0), 5)
        .answers("height", s -> s.twin.measure(s.gxy, 1), 3)
        .answers("symbols of an abstraction", s -> s.twin.measure(s.over, 0), 4)
        .answers("height of an abstraction", s -> s.twin.measure(s.over, 1), 3);
    new Edge<>(promise, "IndexOutOfBoundsException;", Started::new)
        .noTerm("no term", (s, wrong) -> s.twin.measure(wrong, 0))
        .noTerm("no term, its height", (s, wrong) -> s.twin.measure(wrong, 1))
        .noTerm("before no such what", (s, wrong) -> s.twin.measure(wrong, 2))
        .allowed("the last term", s -> s.twin.measure(s.terms() - 1, 0));
    new Edge<>(promise, "IllegalArgumentException if there is no such what.", Started::new)
        .within(0, 1, Checks.ARGUMENT, (s, what) -> s.twin.measure(s.gxy, what));
  }

  private static void same() {
    String promise = "Promise 18";
    new Edge<>(promise, "Whether two terms are the same.", Started::new)
        .answers("itself", s -> s.twin.same(s.gxy, s.gxy), 1)
        .answers("one like it", s -> s.twin.same(s.fx, s.twin.apply(s.f, s.x)), 1)
        .answers("another name", s -> s.twin.same(s.x, s.y), 0)
        .answers("another type", s -> s.twin.same(s.x, s.truth), 0)
        .answers("a constant", s -> s.twin.same(s.x, s.c), 0)
        .answers("its part", s -> s.twin.same(s.gxy, s.gx), 0)
        .answers("the last symbol", s -> s.twin.same(s.gxy, s.twin.apply(s.gx, s.x)), 0)
        .answers("a type that is not used", s -> s.twin.same(
            s.idle, s.twin.abstraction(s.truth, s.x)), 0);
    new Edge<>(promise, "IndexOutOfBoundsException.", Started::new)
        .noTerm("no t", (s, wrong) -> s.twin.same(wrong, s.x))
        .noTerm("no u", (s, wrong) -> s.twin.same(s.x, wrong))
        .noTerm("neither", (s, wrong) -> s.twin.same(wrong, wrong))
        .allowed("the last term", s -> s.twin.same(s.terms() - 1, s.terms() - 1));
  }

  private static void occurs() {
    String promise = "Promise 20";
    new Edge<>(promise, "Whether a free variable is in a term.", Started::new)
        .answers("itself", s -> s.twin.occurs(s.x, s.x), 1)
        .answers("the first symbol", s -> s.twin.occurs(s.g, s.gxy), 1)
        .answers("the last symbol", s -> s.twin.occurs(s.y, s.gxy), 1)
        .answers("not there", s -> s.twin.occurs(s.f, s.gxy), 0)
        .answers("in the next term", s -> s.twin.occurs(s.y, s.x), 0)
        .answers("in the term before", s -> s.twin.occurs(s.x, s.y), 0)
        .answers("number 0", s -> s.twin.occurs(s.twin.free(0, s.alpha), s.gxy), 0)
        .answers("of another type", s -> s.twin.occurs(s.truth, s.gxy), 0)
        .answers("bound", s -> s.twin.occurs(s.x, s.over), 0)
        .answers("below a binder", s -> s.twin.occurs(s.x, s.idle), 1);
    new Edge<>(promise, "IndexOutOfBoundsException;", Started::new)
        .noTerm("no v", (s, wrong) -> s.twin.occurs(wrong, s.x))
        .noTerm("no t", (s, wrong) -> s.twin.occurs(s.x, wrong))
        .noTerm("no t before no variable", (s, wrong) -> s.twin.occurs(s.c, wrong))
        .allowed("the last term", s -> s.twin.occurs(s.x, s.terms() - 1));
    new Edge<>(promise, "IllegalArgumentException if v is no free variable.", Started::new)
        .refused("a constant", s -> s.twin.occurs(s.c, s.c), Checks.ARGUMENT)
        .refused("an application", s -> s.twin.occurs(s.fx, s.fx), Checks.ARGUMENT)
        .refused("an abstraction", s -> s.twin.occurs(s.self, s.self), Checks.ARGUMENT);
  }
}
