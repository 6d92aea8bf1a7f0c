/** Promises 21 and 22: match and matched. */
public final class MatchTest {
  private final TermLoom loom = new TermLoom();
  private final int alpha = loom.typeVariable(0);
  private final int beta = loom.typeVariable(1);
  private final int truths = loom.type(0, 0, 0);
  private final int things = loom.type(1, 0, 0);
  private final int predicates = loom.type(2, things, truths);
  private final int relations = loom.type(2, things, predicates);
  private final int x = loom.free(1, things);
  private final int y = loom.free(2, things);
  private final int r = loom.free(3, relations);

  public static void main(String[] args) {
    new MatchTest().variables();
    new MatchTest().furtherPlaces();
    new MatchTest().oneNumberTwoTypes();
    new MatchTest().constants();
    new MatchTest().binders();
    new MatchTest().typesTogether();
    new MatchTest().ownTypesAreNotLookedAt();
    new MatchTest().whatStaysMatched();
    new MatchTest().wrongHandles();
    Checks.end("MatchTest");
  }

  private int related(int a, int b) {
    return loom.apply(loom.apply(r, a), b);
  }

  private void made(String what, int i, int term) {
    Checks.truth(what, () -> loom.same(loom.matched(i), term), true);
  }

  private void variables() {
    int rxy = related(x, y);
    int rxx = related(x, x);
    Checks.due("a variable alone", () -> loom.match(x, y), 1);
    made("it became y", 0, y);
    Checks.due("three variables", () -> loom.match(rxy, rxx), 3);
    made("in the order of first places, r", 0, r);
    made("then x", 1, x);
    made("then y", 2, x);
    Checks.refused("there are three", () -> loom.matched(3), Checks.INDEX);
    Checks.refused("there is none before", () -> loom.matched(-1), Checks.INDEX);
    Checks.due("a variable becomes an application", () -> loom.match(loom.free(9, truths), rxy), 1);
    made("that one", 0, rxy);
    Checks.due("of another type", () -> loom.match(x, rxy), -1);
    Checks.due("an application does not fit a variable", () -> loom.match(rxy, x), -1);
    Checks.due("nor an abstraction", () -> loom.match(rxy, loom.abstraction(x, rxy)), -1);
    int handle = loom.free(5, things);
    Checks.due("a match makes no handle", () -> loom.match(rxy, rxx), 3);
    Checks.due("matched() makes the next one", () -> loom.matched(1), handle + 1);
    Checks.due("and again", () -> loom.matched(1), handle + 2);
  }

  private void furtherPlaces() {
    int rxx = related(x, x);
    Checks.due("two terms for one variable", () -> loom.match(rxx, related(x, y)), -1);
    Checks.due("one term for one variable", () -> loom.match(rxx, related(y, y)), 2);
    made("r", 0, r);
    made("y", 1, y);
    int f = loom.free(4, loom.type(2, things, things));
    int longer = loom.apply(f, loom.apply(f, x));
    Checks.due("another length", () -> loom.match(rxx, related(longer, loom.apply(f, x))), -1);
    Checks.due("larger terms", () -> loom.match(rxx, related(longer, longer)), 2);
    made("the larger one", 1, longer);
    int g = loom.free(5, loom.type(2, loom.type(2, truths, things), things));
    int named = loom.apply(g, loom.abstraction(loom.free(6, truths), x));
    int renamed = loom.apply(g, loom.abstraction(loom.free(7, truths), x));
    Checks.due("alike but for bound names", () -> loom.match(rxx, related(named, renamed)), 2);
    int h = loom.free(5, loom.type(2, things, things));
    int c = loom.declare(loom.type(2, alpha, things));
    int ofThings = loom.apply(loom.constant(c, loom.type(2, things, things)), x);
    int ofTruths = loom.apply(loom.constant(c, predicatesToThings()), loom.apply(loom.apply(r, x), x));
    Checks.due("other types within", () -> loom.match(rxx, related(ofThings, ofTruths)), -1);
    Checks.due("two names, one term", () -> loom.match(loom.apply(f, x), loom.apply(h, y)), 2);
  }

  private int predicatesToThings() {
    return loom.type(2, truths, things);
  }

  private void oneNumberTwoTypes() {
    int a = loom.free(1, alpha);
    int b = loom.free(1, beta);
    int f = loom.free(3, loom.type(2, alpha, loom.type(2, beta, truths)));
    int fab = loom.apply(loom.apply(f, a), b);
    int rxy = related(x, y);
    Checks.due("they are two", () -> loom.match(fab, rxy), 3);
    made("f", 0, r);
    made("the one", 1, x);
    made("the other one", 2, y);
    Checks.due("and may become the same", () -> loom.match(fab, related(x, x)), 3);
  }

  private void constants() {
    int c = loom.declare(alpha);
    int d = loom.declare(alpha);
    int cAlpha = loom.constant(c, alpha);
    int cThings = loom.constant(c, things);
    int dThings = loom.constant(d, things);
    Checks.due("its type fits", () -> loom.match(cAlpha, cThings), 0);
    Checks.refused("no variable became anything", () -> loom.matched(0), Checks.INDEX);
    Checks.due("its type does not fit", () -> loom.match(cThings, cAlpha), -1);
    Checks.due("another constant", () -> loom.match(cAlpha, dThings), -1);
    Checks.due("a constant does not fit a variable", () -> loom.match(cThings, x), -1);
    Checks.due("a variable fits a constant", () -> loom.match(x, dThings), 1);
    made("the constant", 0, dThings);
    int rcx = related(cThings, x);
    Checks.due("a constant within", () -> loom.match(rcx, related(cThings, y)), 2);
    Checks.due("not that one within", () -> loom.match(rcx, related(dThings, y)), -1);
  }

  private void binders() {
    int bothBound = loom.abstraction(x, loom.abstraction(y, related(x, y)));
    int crossed = loom.abstraction(x, loom.abstraction(y, related(y, x)));
    Checks.due("bound variables fit themselves", () -> loom.match(bothBound, bothBound), 1);
    made("r", 0, r);
    Checks.due("not each other", () -> loom.match(bothBound, crossed), -1);
    int p = loom.free(7, predicates);
    int truth = loom.free(8, truths);
    int overTruth = loom.abstraction(x, truth);
    int overPx = loom.abstraction(x, loom.apply(p, x));
    Checks.due("bound outside", () -> loom.match(overTruth, overPx), -1);
    Checks.due("not bound", () -> loom.match(overTruth, loom.abstraction(x, loom.apply(p, y))), 1);
    made("what is not bound", 0, loom.apply(p, y));
    Checks.due("a free variable does not fit a bound one",
        () -> loom.match(loom.abstraction(x, y), loom.abstraction(x, x)), -1);
    Checks.due("nor a bound one a free one",
        () -> loom.match(loom.abstraction(x, x), loom.abstraction(x, y)), -1);
    int ofPredicates = loom.free(9, loom.type(2, predicates, truths));
    int within = loom.apply(ofPredicates, overPx);
    Checks.due("bound within it", () -> loom.match(overTruth, loom.abstraction(y, within)), 1);
    made("with its binder", 0, within);
    int mixed = loom.apply(ofPredicates, loom.abstraction(x, related(y, x)));
    Checks.due("bound within it, and outside",
        () -> loom.match(overTruth, loom.abstraction(y, mixed)), -1);
    Checks.due("the binders outside that were gone into are none at the top",
        () -> loom.match(loom.free(1, predicates), overPx), 1);
    int q = loom.free(5, loom.type(2, predicates, loom.type(2, things, truths)));
    int behind = loom.apply(loom.apply(q, overPx), x);
    int pattern = loom.abstraction(x, loom.apply(loom.apply(q, loom.free(4, predicates)), x));
    Checks.due("behind a term with a binder", () -> loom.match(pattern, loom.abstraction(x, behind)), 2);
    made("the abstraction", 1, overPx);
  }

  private void typesTogether() {
    int a = loom.free(1, alpha);
    int overA = loom.abstraction(a, a);
    int overX = loom.abstraction(x, x);
    Checks.due("bound variables' types fit", () -> loom.match(overA, overX), 0);
    Checks.due("or not", () -> loom.match(overX, overA), -1);
    int idle = loom.abstraction(a, loom.free(2, alpha));
    Checks.due("the type at each further place", () -> loom.match(idle, loom.abstraction(x, y)), 1);
    int truth = loom.free(4, truths);
    Checks.due("another one there", () -> loom.match(idle, loom.abstraction(x, truth)), -1);
    int f = loom.free(5, loom.type(2, alpha, alpha));
    int fx = loom.apply(loom.free(6, loom.type(2, things, things)), x);
    Checks.due("functions from and to one type", () -> loom.match(loom.apply(f, a), fx), 2);
    Checks.due("from and to two types",
        () -> loom.match(loom.apply(f, a), loom.apply(loom.free(6, predicates), x)), -1);
    int swapped = loom.type(2, beta, alpha);
    int target = loom.free(0, loom.type(2, alpha, beta));
    Checks.due("the pattern's variables are its own", () -> loom.match(loom.free(0, swapped), target), 1);
    Checks.due("a variable fits functions", () -> loom.match(a, r), 1);
    Checks.due("functions do not fit a variable", () -> loom.match(r, a), -1);
    int lists = loom.constructor(1);
    int pairs = loom.constructor(2);
    int list = loom.free(1, loom.type(lists, alpha, 0));
    int listOfThings = loom.free(1, loom.type(lists, things, 0));
    int pair = loom.free(1, loom.type(pairs, alpha, beta));
    Checks.due("one constructor", () -> loom.match(list, listOfThings), 1);
    Checks.due("two constructors", () -> loom.match(pair, r), -1);
    Checks.due("a match does not remember the one before", () -> loom.match(a, truth), 1);
  }

  private void ownTypesAreNotLookedAt() {
    int c = loom.declare(loom.type(2, alpha, loom.type(2, beta, things)));
    int first = loom.free(1, alpha);
    int second = loom.free(2, beta);
    int pattern = loom.apply(loom.apply(
        loom.constant(c, loom.type(2, alpha, loom.type(2, beta, things))), first), second);
    int term = loom.apply(loom.apply(loom.constant(c, relationsToThings()), r), x);
    Checks.due("each part fits", () -> loom.match(pattern, term), 2);
    made("first", 0, r);
    made("second", 1, x);
  }

  private int relationsToThings() {
    return loom.type(2, relations, loom.type(2, things, things));
  }

  private void whatStaysMatched() {
    int rxy = related(x, y);
    Checks.refused("nothing was matched", () -> loom.matched(0), Checks.INDEX);
    loom.match(rxy, related(y, x));
    loom.abstraction(x, rxy);
    loom.retype(rxy, 0, things);
    loom.constant(loom.declare(alpha), things);
    made("other calls do not change it", 1, y);
    Checks.refused("a match of no term", () -> loom.match(99, x), Checks.INDEX);
    made("nor one that threw", 2, x);
    Checks.due("one that fits less", () -> loom.match(x, y), 1);
    Checks.refused("forgets the rest", () -> loom.matched(1), Checks.INDEX);
    made("and has its own", 0, y);
    Checks.due("one that does not fit", () -> loom.match(related(x, x), rxy), -1);
    Checks.refused("leaves nothing", () -> loom.matched(0), Checks.INDEX);
    Checks.due("the next one starts anew", () -> loom.match(rxy, related(y, y)), 3);
  }

  private void wrongHandles() {
    Checks.refused("no p", () -> loom.match(99, x), Checks.INDEX);
    Checks.refused("no t", () -> loom.match(x, 99), Checks.INDEX);
    Checks.refused("p is -1", () -> loom.match(-1, x), Checks.INDEX);
    Checks.refused("t is -1", () -> loom.match(x, -1), Checks.INDEX);
    Checks.refused("matched(least)", () -> loom.matched(Integer.MIN_VALUE), Checks.INDEX);
  }
}
