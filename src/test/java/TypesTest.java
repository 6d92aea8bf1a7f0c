/** Promises 1 to 5, and 19: types. */
public final class TypesTest {
  private static final int TRUTHS = 0;
  private static final int THINGS = 1;
  private static final int FUNCTIONS = 2;

  public static void main(String[] args) {
    newObject();
    constructors();
    variables();
    types();
    prefixOrder();
    sameTypes();
    objectsAreApart();
    Checks.end("TypesTest");
  }

  private static void newObject() {
    TermLoom loom = new TermLoom();
    Checks.refused("new: typeSymbol", () -> loom.typeSymbol(0, 0), Checks.INDEX);
    Checks.refused("new: symbol", () -> loom.symbol(0, 0), Checks.INDEX);
    Checks.refused("new: measure", () -> loom.measure(0, 0), Checks.INDEX);
    Checks.refused("new: matched", () -> loom.matched(0), Checks.INDEX);
    Checks.refused("new: type of constructor 3", () -> loom.type(3, 0, 0), Checks.ARGUMENT);
    Checks.due("new: first type", () -> loom.type(TRUTHS, 0, 0), 0);
    Checks.refused("new: constant 0", () -> loom.constant(0, 0), Checks.ARGUMENT);
    Checks.due("new: first constant", () -> loom.declare(0), 0);
    Checks.due("new: first term", () -> loom.free(0, 0), 0);
    Checks.due("new: first constructor", () -> loom.constructor(0), 3);
  }

  private static void constructors() {
    TermLoom loom = new TermLoom();
    Checks.refused("constructor(-1)", () -> loom.constructor(-1), Checks.ARGUMENT);
    Checks.refused("constructor(3)", () -> loom.constructor(3), Checks.ARGUMENT);
    Checks.refused("constructor(least)", () -> loom.constructor(Integer.MIN_VALUE), Checks.ARGUMENT);
    Checks.due("constructor(0)", () -> loom.constructor(0), 3);
    Checks.due("constructor(1)", () -> loom.constructor(1), 4);
    Checks.due("constructor(2)", () -> loom.constructor(2), 5);
    for (int c = 6; c < 40; c++) {
      int number = c;
      Checks.due("constructor " + c, () -> loom.constructor(number % 3), c);
    }
    Checks.refused("constructor 40", () -> loom.constructor(0), Checks.STATE);
    Checks.refused("wrong constructor 40", () -> loom.constructor(3), Checks.ARGUMENT);
    Checks.due("the last constructor is there", () -> loom.type(39, 9, 9), 0);
    Checks.refused("there is none behind it", () -> loom.type(40, 0, 0), Checks.ARGUMENT);
  }

  private static void variables() {
    TermLoom loom = new TermLoom();
    Checks.refused("typeVariable(-1)", () -> loom.typeVariable(-1), Checks.ARGUMENT);
    Checks.refused("typeVariable(1000)", () -> loom.typeVariable(1000), Checks.ARGUMENT);
    Checks.due("typeVariable(0)", () -> loom.typeVariable(0), 0);
    Checks.due("typeVariable(999)", () -> loom.typeVariable(999), 1);
    Checks.due("typeVariable(0) again", () -> loom.typeVariable(0), 2);
    Checks.typeSymbols("variable 0", loom, 0, -1);
    Checks.typeSymbols("variable 999", loom, 1, -1000);
    Checks.typeSymbols("variable 0 again", loom, 2, -1);
  }

  private static void types() {
    TermLoom loom = new TermLoom();
    loom.constructor(1);
    Checks.due("truths look at no handle", () -> loom.type(TRUTHS, -5, 77), 0);
    Checks.due("things look at no handle", () -> loom.type(THINGS, 9, -1), 1);
    Checks.due("functions", () -> loom.type(FUNCTIONS, 0, 1), 2);
    Checks.due("one that takes one does not look at b", () -> loom.type(3, 2, 99), 3);
    Checks.refused("no first type", () -> loom.type(FUNCTIONS, 4, 0), Checks.INDEX);
    Checks.refused("no second type", () -> loom.type(FUNCTIONS, 0, 4), Checks.INDEX);
    Checks.refused("negative first type", () -> loom.type(FUNCTIONS, -1, 0), Checks.INDEX);
    Checks.refused("negative second type", () -> loom.type(FUNCTIONS, 0, -1), Checks.INDEX);
    Checks.refused("no type for the one that takes one", () -> loom.type(3, 4, 0), Checks.INDEX);
    Checks.refused("no constructor -1", () -> loom.type(-1, 0, 0), Checks.ARGUMENT);
    Checks.refused("no constructor comes before no type", () -> loom.type(4, 99, 99), Checks.ARGUMENT);
    Checks.due("what was refused got no handle", () -> loom.type(TRUTHS, 0, 0), 4);
  }

  private static void prefixOrder() {
    TermLoom loom = new TermLoom();
    int pairs = loom.constructor(2);
    int lists = loom.constructor(1);
    int truths = loom.type(TRUTHS, 0, 0);
    int things = loom.type(THINGS, 0, 0);
    int seventh = loom.typeVariable(7);
    int pair = loom.type(pairs, seventh, truths);
    int list = loom.type(lists, pair, 0);
    int from = loom.type(FUNCTIONS, list, things);
    int whole = loom.type(FUNCTIONS, from, pair);
    Checks.typeSymbols("pair", loom, pair, 3, -8, 0);
    Checks.typeSymbols("list", loom, list, 4, 3, -8, 0);
    Checks.typeSymbols("whole", loom, whole, 2, 2, 4, 3, -8, 0, 1, 3, -8, 0);
    Checks.refused("no such type", () -> loom.typeSymbol(whole + 1, 0), Checks.INDEX);
    Checks.refused("type -1", () -> loom.typeSymbol(-1, 0), Checks.INDEX);
  }

  private static void sameTypes() {
    TermLoom few = new TermLoom();
    few.typeVariable(3);
    few.typeVariable(3);
    Checks.truth("the only type there is", () -> few.sameType(0, 1), true);
    TermLoom loom = new TermLoom();
    int truths = loom.type(TRUTHS, 0, 0);
    int things = loom.type(THINGS, 0, 0);
    int there = loom.type(FUNCTIONS, truths, things);
    int back = loom.type(FUNCTIONS, things, truths);
    int again = loom.type(FUNCTIONS, loom.type(TRUTHS, 0, 0), loom.type(THINGS, 0, 0));
    int first = loom.typeVariable(1);
    int second = loom.typeVariable(2);
    Checks.truth("a type is itself", () -> loom.sameType(there, there), true);
    Checks.truth("alike types are the same", () -> loom.sameType(there, again), true);
    Checks.truth("the order matters", () -> loom.sameType(there, back), false);
    Checks.truth("variables by number", () -> loom.sameType(first, second), false);
    Checks.truth("constructors by number", () -> loom.sameType(truths, things), false);
    Checks.refusedTruth("no type a", () -> loom.sameType(99, 0), Checks.INDEX);
    Checks.refusedTruth("no type b", () -> loom.sameType(0, -1), Checks.INDEX);
  }

  private static void objectsAreApart() {
    TermLoom one = new TermLoom();
    TermLoom other = new TermLoom();
    one.constructor(0);
    one.typeVariable(4);
    Checks.due("the other's constructor", () -> other.constructor(1), 3);
    Checks.due("the other's type", () -> other.typeVariable(5), 0);
    Checks.typeSymbols("the one's type", one, 0, -5);
    Checks.typeSymbols("the other's type", other, 0, -6);
  }
}
