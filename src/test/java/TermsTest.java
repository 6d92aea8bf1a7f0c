/** Promises 6 to 18, and 20: terms. */
public final class TermsTest {
  private static final int APPLICATION = -1;
  private static final int ABSTRACTION = -2;

  private final TermLoom loom = new TermLoom();
  private final int alpha = loom.typeVariable(0);
  private final int truths = loom.type(0, 0, 0);
  private final int things = loom.type(1, 0, 0);
  private final int predicates = loom.type(2, things, truths);
  private final int endless = loom.type(2, alpha, alpha);

  private static int boundCode(int i) {
    return 4 * i;
  }

  private static int freeCode(int n) {
    return 4 * n + 1;
  }

  private static int constantCode(int c) {
    return 4 * c + 2;
  }

  public static void main(String[] args) {
    new TermsTest().declared();
    new TermsTest().freeVariables();
    new TermsTest().constants();
    new TermsTest().applications();
    new TermsTest().abstractions();
    new TermsTest().parts();
    new TermsTest().opened();
    new TermsTest().replaced();
    new TermsTest().retyped();
    new TermsTest().typesOfTerms();
    new TermsTest().symbolsAndMeasures();
    new TermsTest().sameTerms();
    new TermsTest().occurrences();
    Checks.end("TermsTest");
  }

  private void declared() {
    Checks.refused("declare(99)", () -> loom.declare(99), Checks.INDEX);
    Checks.refused("declare(-1)", () -> loom.declare(-1), Checks.INDEX);
    for (int c = 0; c < 200; c++) {
      Checks.due("constant " + c, () -> loom.declare(alpha), c);
    }
    Checks.refused("constant 200", () -> loom.declare(alpha), Checks.STATE);
    Checks.refused("no type comes first", () -> loom.declare(99), Checks.INDEX);
    Checks.due("the last one is there", () -> loom.constant(199, truths), 0);
    Checks.symbols("the last one", loom, 0, constantCode(199));
    Checks.refused("there is none behind it", () -> loom.constant(200, truths), Checks.ARGUMENT);
  }

  private void freeVariables() {
    Checks.due("free(0)", () -> loom.free(0, alpha), 0);
    Checks.due("free(999)", () -> loom.free(999, truths), 1);
    Checks.due("free(0) again", () -> loom.free(0, alpha), 2);
    Checks.symbols("free 0", loom, 0, 1);
    Checks.symbols("free 999", loom, 1, 3997);
    Checks.refused("free(1000)", () -> loom.free(1000, alpha), Checks.ARGUMENT);
    Checks.refused("free(-1)", () -> loom.free(-1, alpha), Checks.ARGUMENT);
    Checks.refused("no type comes first", () -> loom.free(-1, 99), Checks.INDEX);
    Checks.refused("type -1", () -> loom.free(0, -1), Checks.INDEX);
    Checks.due("what was refused got no handle", () -> loom.free(1, truths), 3);
  }

  private void constants() {
    int beta = loom.typeVariable(1);
    int mixed = loom.type(2, alpha, beta);
    int mixedTwice = loom.type(2, alpha, loom.type(2, beta, alpha));
    int identity = loom.declare(endless);
    int between = loom.declare(mixed);
    int twice = loom.declare(mixedTwice);
    int fixed = loom.declare(things);
    int thingsToThings = loom.type(2, things, things);
    int deep = loom.type(2, predicates, predicates);
    Checks.due("as declared", () -> loom.constant(identity, endless), 0);
    Checks.due("with another type put in", () -> loom.constant(identity, thingsToThings), 1);
    Checks.due("with functions put in", () -> loom.constant(identity, deep), 2);
    Checks.due("two variables may become two types", () -> loom.constant(between, predicates), 3);
    Checks.due("and one", () -> loom.constant(between, endless), 4);
    Checks.due("no variables", () -> loom.constant(fixed, things), 5);
    Checks.symbols("constant 1", loom, 3, constantCode(1));
    Checks.refused("one variable, two types", () -> loom.constant(identity, predicates), Checks.ARGUMENT);
    Checks.refused("not functions", () -> loom.constant(identity, things), Checks.ARGUMENT);
    Checks.refused("a variable is not a constructor", () -> loom.constant(fixed, alpha), Checks.ARGUMENT);
    int wrong = loom.type(2, things, loom.type(2, truths, truths));
    int right = loom.type(2, things, loom.type(2, truths, things));
    Checks.refused("a further place", () -> loom.constant(twice, wrong), Checks.ARGUMENT);
    Checks.due("a further place of the same type", () -> loom.constant(twice, right), 6);
    Checks.refused("no such constant", () -> loom.constant(4, things), Checks.ARGUMENT);
    Checks.refused("constant -1", () -> loom.constant(-1, things), Checks.ARGUMENT);
    Checks.refused("no type comes first", () -> loom.constant(-1, 99), Checks.INDEX);
    Checks.refused("type -1", () -> loom.constant(0, -1), Checks.INDEX);
  }

  private void applications() {
    int p = loom.free(1, predicates);
    int x = loom.free(2, things);
    int truth = loom.free(3, truths);
    int i = loom.free(4, endless);
    int a = loom.free(5, alpha);
    int px = loom.apply(p, x);
    Checks.due("the next handle", () -> px, 5);
    Checks.symbols("p x", loom, px, APPLICATION, freeCode(1), freeCode(2));
    Checks.truth("p x is of truths", () -> loom.sameType(loom.typeOf(px), truths), true);
    Checks.due("i a", () -> loom.apply(i, a), 6);
    Checks.refused("x x", () -> loom.apply(x, x), Checks.ARGUMENT);
    Checks.refused("p of a truth", () -> loom.apply(p, truth), Checks.ARGUMENT);
    Checks.refused("types are not put in by themselves", () -> loom.apply(i, x), Checks.ARGUMENT);
    Checks.refused("no f", () -> loom.apply(99, x), Checks.INDEX);
    Checks.refused("no x", () -> loom.apply(x, 99), Checks.INDEX);
    Checks.refused("x is -1", () -> loom.apply(p, -1), Checks.INDEX);
    int pairs = loom.constructor(2);
    int pair = loom.free(6, loom.type(pairs, things, truths));
    Checks.refused("pairs are no functions", () -> loom.apply(pair, x), Checks.ARGUMENT);
  }

  private void abstractions() {
    int p = loom.free(1, predicates);
    int x = loom.free(2, things);
    int otherX = loom.free(2, truths);
    int px = loom.apply(p, x);
    int all = loom.abstraction(x, px);
    Checks.symbols("over x", loom, all, ABSTRACTION, APPLICATION, freeCode(1), boundCode(0));
    Checks.truth("of functions", () -> loom.sameType(loom.typeOf(all), predicates), true);
    int both = loom.abstraction(p, all);
    Checks.symbols("over p and x", loom, both,
        ABSTRACTION, ABSTRACTION, APPLICATION, boundCode(1), boundCode(0));
    Checks.typeSymbols("over p and x", loom, loom.typeOf(both), 2, 2, 1, 0, 2, 1, 0);
    int idle = loom.abstraction(otherX, px);
    Checks.symbols("another type is another variable", loom, idle,
        ABSTRACTION, APPLICATION, freeCode(1), freeCode(2));
    int taken = loom.abstraction(x, both);
    Checks.symbols("what is bound is not bound again", loom, taken,
        ABSTRACTION, ABSTRACTION, ABSTRACTION, APPLICATION, boundCode(1), boundCode(0));
    int f = loom.free(7, loom.type(2, predicates, predicates));
    int mixed = loom.apply(loom.apply(f, loom.abstraction(x, px)), x);
    int deep = loom.abstraction(p, mixed);
    Checks.symbols("the count goes back behind an abstraction", loom, loom.abstraction(x, deep),
        ABSTRACTION, ABSTRACTION, APPLICATION, APPLICATION, freeCode(7),
        ABSTRACTION, APPLICATION, boundCode(1), boundCode(0), boundCode(1));
    int c = loom.constant(loom.declare(alpha), things);
    Checks.refused("over an application", () -> loom.abstraction(px, px), Checks.ARGUMENT);
    Checks.refused("over an abstraction", () -> loom.abstraction(all, px), Checks.ARGUMENT);
    Checks.refused("over a constant", () -> loom.abstraction(c, px), Checks.ARGUMENT);
    Checks.refused("no v", () -> loom.abstraction(99, px), Checks.INDEX);
    Checks.refused("no body comes first", () -> loom.abstraction(px, 99), Checks.INDEX);
    Checks.refused("body -1", () -> loom.abstraction(x, -1), Checks.INDEX);
  }

  private void parts() {
    int p = loom.free(1, loom.type(2, things, predicates));
    int x = loom.free(2, things);
    int y = loom.free(3, things);
    int pxy = loom.apply(loom.apply(p, x), y);
    int f = loom.free(4, loom.type(2, predicates, truths));
    int binding = loom.apply(f, loom.abstraction(y, pxy));
    Checks.symbols("f", loom, loom.part(pxy, 0), APPLICATION, freeCode(1), freeCode(2));
    Checks.symbols("x", loom, loom.part(pxy, 1), freeCode(3));
    Checks.symbols("an abstraction", loom, loom.part(binding, 1),
        ABSTRACTION, APPLICATION, APPLICATION, freeCode(1), freeCode(2), boundCode(0));
    Checks.truth("the part's type", () -> loom.sameType(loom.typeOf(loom.part(pxy, 0)), predicates), true);
    Checks.due("the part's height", () -> loom.measure(loom.part(binding, 1), 1), 4);
    Checks.refused("part -1", () -> loom.part(pxy, -1), Checks.ARGUMENT);
    Checks.refused("part 2", () -> loom.part(pxy, 2), Checks.ARGUMENT);
    Checks.refused("of a variable", () -> loom.part(x, 0), Checks.ARGUMENT);
    Checks.refused("of an abstraction", () -> loom.part(loom.part(binding, 1), 0), Checks.ARGUMENT);
    Checks.refused("no term comes first", () -> loom.part(99, 7), Checks.INDEX);
    Checks.refused("term -1", () -> loom.part(-1, 0), Checks.INDEX);
  }

  private void opened() {
    int p = loom.free(1, loom.type(2, things, predicates));
    int x = loom.free(2, things);
    int y = loom.free(3, things);
    int truth = loom.free(3, truths);
    int pxy = loom.apply(loom.apply(p, x), y);
    int inner = loom.abstraction(y, pxy);
    int outer = loom.abstraction(x, inner);
    int opened = loom.open(outer, y);
    Checks.symbols("y stays free below y's binder", loom, opened,
        ABSTRACTION, APPLICATION, APPLICATION, freeCode(1), freeCode(3), boundCode(0));
    Checks.truth("opened with its own variable", () -> loom.same(loom.open(outer, x), inner), true);
    int f = loom.free(5, loom.type(2, predicates, things));
    int large = loom.apply(f, inner);
    Checks.symbols("with a larger term", loom, loom.open(outer, large),
        ABSTRACTION, APPLICATION, APPLICATION, freeCode(1),
        APPLICATION, freeCode(5), ABSTRACTION, APPLICATION, APPLICATION, freeCode(1), freeCode(2),
        boundCode(0), boundCode(0));
    int idle = loom.abstraction(loom.free(9, things), x);
    Checks.symbols("nothing bound", loom, loom.open(idle, large), freeCode(2));
    int self = loom.abstraction(x, x);
    Checks.truth("the variable alone", () -> loom.same(loom.open(self, large), large), true);
    int mixed = loom.abstraction(x, loom.apply(loom.apply(p, loom.apply(f, inner)), x));
    Checks.symbols("the count goes back behind an abstraction", loom, loom.open(mixed, y),
        APPLICATION, APPLICATION, freeCode(1), APPLICATION, freeCode(5),
        ABSTRACTION, APPLICATION, APPLICATION, freeCode(1), freeCode(3), boundCode(0), freeCode(3));
    Checks.refused("no abstraction", () -> loom.open(pxy, x), Checks.ARGUMENT);
    Checks.refused("a variable of functions", () -> loom.open(p, x), Checks.ARGUMENT);
    Checks.refused("of another type", () -> loom.open(outer, truth), Checks.ARGUMENT);
    Checks.refused("no t", () -> loom.open(99, x), Checks.INDEX);
    Checks.refused("no s comes first", () -> loom.open(pxy, 99), Checks.INDEX);
    Checks.refused("s is -1", () -> loom.open(outer, -1), Checks.INDEX);
  }

  private void replaced() {
    int p = loom.free(1, loom.type(2, things, predicates));
    int x = loom.free(2, things);
    int y = loom.free(3, things);
    int otherX = loom.free(2, truths);
    int pxx = loom.apply(loom.apply(p, x), x);
    int under = loom.abstraction(y, loom.apply(loom.apply(p, x), y));
    Checks.symbols("each one", loom, loom.put(pxx, x, y),
        APPLICATION, APPLICATION, freeCode(1), freeCode(3), freeCode(3));
    Checks.symbols("y stays free below y's binder", loom, loom.put(under, x, y),
        ABSTRACTION, APPLICATION, APPLICATION, freeCode(1), freeCode(3), boundCode(0));
    Checks.truth("what is bound is not free", () -> loom.same(loom.put(under, y, x), under), true);
    Checks.truth("another type is another variable",
        () -> loom.same(loom.put(pxx, otherX, otherX), pxx), true);
    int f = loom.free(5, loom.type(2, truths, things));
    int fpxx = loom.apply(f, pxx);
    Checks.symbols("put in once, not again", loom, loom.put(pxx, x, fpxx),
        APPLICATION, APPLICATION, freeCode(1),
        APPLICATION, freeCode(5), APPLICATION, APPLICATION, freeCode(1), freeCode(2), freeCode(2),
        APPLICATION, freeCode(5), APPLICATION, APPLICATION, freeCode(1), freeCode(2), freeCode(2));
    Checks.due("its height", () -> loom.measure(loom.put(pxx, x, fpxx), 1), 6);
    Checks.truth("for the variable alone", () -> loom.same(loom.put(x, x, fpxx), fpxx), true);
    Checks.refused("for an application", () -> loom.put(x, pxx, pxx), Checks.ARGUMENT);
    Checks.refused("for an abstraction", () -> loom.put(x, under, under), Checks.ARGUMENT);
    Checks.refused("of another type", () -> loom.put(pxx, x, otherX), Checks.ARGUMENT);
    Checks.refused("of another type, not there either", () -> loom.put(p, x, otherX), Checks.ARGUMENT);
    Checks.refused("no t", () -> loom.put(99, x, y), Checks.INDEX);
    Checks.refused("no v", () -> loom.put(x, -1, y), Checks.INDEX);
    Checks.refused("no s comes first", () -> loom.put(x, pxx, 99), Checks.INDEX);
  }

  private void retyped() {
    int beta = loom.typeVariable(1);
    int f = loom.free(1, endless);
    int a = loom.free(2, alpha);
    int b = loom.free(2, beta);
    int fa = loom.apply(f, a);
    int changed = loom.retype(fa, 0, things);
    Checks.symbols("the symbols stay", loom, changed, APPLICATION, freeCode(1), freeCode(2));
    Checks.truth("the term's type", () -> loom.sameType(loom.typeOf(changed), things), true);
    Checks.truth("the function's type", () -> loom.sameType(loom.typeOf(loom.part(changed, 0)),
        loom.type(2, things, things)), true);
    Checks.truth("the variable is another one", () -> loom.occurs(a, changed), false);
    Checks.truth("it is the one of things", () -> loom.occurs(loom.free(2, things), changed), true);
    Checks.truth("another variable's number", () -> loom.same(loom.retype(fa, 1, things), fa), true);
    int pair = loom.declare(loom.type(2, alpha, endless));
    int c = loom.constant(pair, loom.type(2, alpha, loom.type(2, alpha, alpha)));
    Checks.truth("put in once, not again", () -> loom.sameType(
        loom.typeOf(loom.retype(c, 0, endless)),
        loom.type(2, endless, loom.type(2, endless, endless))), true);
    int pickFirst = loom.abstraction(a, loom.abstraction(b, a));
    int one = loom.retype(pickFirst, 1, alpha);
    Checks.symbols("bound variables do not meet", loom, one, ABSTRACTION, ABSTRACTION, boundCode(1));
    int g = loom.free(3, loom.type(2, alpha, loom.type(2, beta, truths)));
    int gab = loom.apply(loom.apply(g, a), b);
    int over = loom.abstraction(a, loom.retype(gab, 1, alpha));
    Checks.symbols("free variables of one type now are one", loom, over,
        ABSTRACTION, APPLICATION, APPLICATION, freeCode(3), boundCode(0), boundCode(0));
    int idle = loom.abstraction(b, a);
    Checks.typeSymbols("an abstraction's type, too", loom, loom.typeOf(loom.retype(idle, 1, truths)),
        2, 0, -1);
    int both = loom.retype(loom.abstraction(a, fa), 0, truths);
    int opened = loom.open(both, loom.free(8, truths));
    Checks.symbols("a bound variable's type, too", loom, opened, APPLICATION, freeCode(1), freeCode(8));
    Checks.refused("n is 1000", () -> loom.retype(fa, 1000, things), Checks.ARGUMENT);
    Checks.refused("n is -1", () -> loom.retype(fa, -1, things), Checks.ARGUMENT);
    Checks.refused("no term comes first", () -> loom.retype(99, -1, things), Checks.INDEX);
    Checks.refused("no type comes first", () -> loom.retype(fa, -1, 99), Checks.INDEX);
    Checks.due("a variable that no type has", () -> loom.measure(loom.retype(fa, 999, things), 0), 3);
  }

  private void typesOfTerms() {
    int x = loom.free(2, things);
    int p = loom.free(1, predicates);
    int next = loom.typeOf(x);
    Checks.due("the next handle of types", () -> next, 5);
    Checks.due("again the next", () -> loom.typeOf(x), 6);
    Checks.typeSymbols("of p", loom, loom.typeOf(p), 2, 1, 0);
    Checks.refused("no term", () -> loom.typeOf(2), Checks.INDEX);
    Checks.refused("term -1", () -> loom.typeOf(-1), Checks.INDEX);
  }

  private void symbolsAndMeasures() {
    int p = loom.free(999, predicates);
    int x = loom.free(2, things);
    int c = loom.constant(loom.declare(alpha), things);
    int pc = loom.apply(p, c);
    int over = loom.abstraction(x, pc);
    int applied = loom.apply(over, x);
    Checks.symbols("constant", loom, c, constantCode(0));
    Checks.symbols("all", loom, applied,
        APPLICATION, ABSTRACTION, APPLICATION, freeCode(999), constantCode(0), freeCode(2));
    Checks.due("symbols of a variable", () -> loom.measure(x, 0), 1);
    Checks.due("height of a variable", () -> loom.measure(x, 1), 1);
    Checks.due("height of a constant", () -> loom.measure(c, 1), 1);
    Checks.due("symbols of all", () -> loom.measure(applied, 0), 6);
    Checks.due("height of all", () -> loom.measure(applied, 1), 4);
    Checks.due("height of an abstraction", () -> loom.measure(over, 1), 3);
    int q = loom.free(3, loom.type(2, truths, truths));
    int right = loom.apply(q, loom.apply(q, loom.apply(q, applied)));
    Checks.due("height to the right", () -> loom.measure(right, 1), 7);
    Checks.refused("what is 2", () -> loom.measure(x, 2), Checks.ARGUMENT);
    Checks.refused("what is -1", () -> loom.measure(x, -1), Checks.ARGUMENT);
    Checks.refused("no term comes first", () -> loom.measure(99, 2), Checks.INDEX);
    Checks.refused("no term", () -> loom.symbol(99, 0), Checks.INDEX);
    Checks.refused("term -1", () -> loom.symbol(-1, 0), Checks.INDEX);
    Checks.refused("the greatest index", () -> loom.symbol(x, Integer.MAX_VALUE), Checks.INDEX);
  }

  private void sameTerms() {
    int x = loom.free(1, things);
    int y = loom.free(2, things);
    int p = loom.free(3, predicates);
    int overX = loom.abstraction(x, loom.apply(p, x));
    int overY = loom.abstraction(y, loom.apply(p, y));
    Checks.truth("bound names do not count", () -> loom.same(overX, overY), true);
    Checks.truth("free names do", () -> loom.same(x, y), false);
    Checks.truth("so do types", () -> loom.same(x, loom.free(1, truths)), false);
    int c = loom.declare(alpha);
    Checks.truth("also of constants",
        () -> loom.same(loom.constant(c, things), loom.constant(c, truths)), false);
    Checks.truth("and of what is bound and not used", () -> loom.same(
        loom.abstraction(loom.free(9, truths), x), loom.abstraction(loom.free(9, things), x)), false);
    Checks.truth("another length", () -> loom.same(x, loom.apply(p, x)), false);
    Checks.truth("an abstraction of nothing", () -> loom.same(
        loom.abstraction(y, x), loom.abstraction(loom.free(9, things), x)), true);
    Checks.truth("another binder", () -> loom.same(
        loom.abstraction(x, loom.abstraction(y, x)), loom.abstraction(x, loom.abstraction(y, y))), false);
    Checks.refusedTruth("no t", () -> loom.same(99, 0), Checks.INDEX);
    Checks.refusedTruth("no u", () -> loom.same(0, -1), Checks.INDEX);
  }

  private void occurrences() {
    int x = loom.free(1, things);
    int p = loom.free(3, predicates);
    int px = loom.apply(p, x);
    int over = loom.abstraction(x, px);
    Checks.truth("x in x", () -> loom.occurs(x, x), true);
    Checks.truth("x in p x", () -> loom.occurs(x, px), true);
    Checks.truth("x bound", () -> loom.occurs(x, over), false);
    Checks.truth("p below the binder", () -> loom.occurs(p, over), true);
    Checks.truth("x of another type", () -> loom.occurs(loom.free(1, truths), px), false);
    Checks.truth("a number that is not there", () -> loom.occurs(loom.free(2, things), px), false);
    int c = loom.constant(loom.declare(things), things);
    Checks.refusedTruth("a constant", () -> loom.occurs(c, px), Checks.ARGUMENT);
    Checks.refusedTruth("an application", () -> loom.occurs(px, px), Checks.ARGUMENT);
    Checks.refusedTruth("an abstraction", () -> loom.occurs(over, px), Checks.ARGUMENT);
    Checks.refusedTruth("no v", () -> loom.occurs(99, px), Checks.INDEX);
    Checks.refusedTruth("no t comes first", () -> loom.occurs(px, 99), Checks.INDEX);
    Checks.refusedTruth("t is -1", () -> loom.occurs(x, -1), Checks.INDEX);
  }
}
