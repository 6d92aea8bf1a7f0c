/** The limits of the chapter 'Terms', each at its edge; a twin counts what there is. */
public final class LimitsTest {
  private static final int MANY = 144;

  private final Twin twin;
  private final int alpha;
  private final int endless;

  private LimitsTest(String name) {
    twin = new Twin(name);
    alpha = twin.typeVariable(0);
    endless = twin.type(2, alpha, alpha);
  }

  public static void main(String[] args) {
    new LimitsTest("height of types").heightOfTypes();
    new LimitsTest("symbols of types").symbolsOfTypes();
    new LimitsTest("types together").typesTogether();
    new LimitsTest("types of abstractions").typesOfAbstractions();
    new LimitsTest("retyped too large").retypedTooLarge();
    new LimitsTest("height of terms").heightOfTerms();
    new LimitsTest("symbols of terms").symbolsOfTerms();
    new LimitsTest("terms together").termsTogether();
    new LimitsTest("different types").differentTypes();
    new LimitsTest("different types, to the last one").lastDifferentType();
    new LimitsTest("forgotten types").forgottenTypes();
    new LimitsTest("many variables matched").manyVariables();
    new LimitsTest("most variables matched").mostVariables();
    Checks.end("LimitsTest");
  }

  private void latest(String what, String want) {
    Checks.due(what, twin.latest, want);
  }

  private void works(String what) {
    Checks.due(what, twin.latest.startsWith("throws") ? twin.latest : "works", "works");
  }

  /** A type of so many symbols, by one constructor that takes one and one that takes two. */
  private int typeOfSize(int size, int unary) {
    if (size == 1) {
      return alpha;
    }
    if (size % 2 == 0) {
      return twin.type(unary, typeOfSize(size - 1, unary), 0);
    }
    int half = (size - 1) / 2;
    int one = typeOfSize(half, unary);
    return twin.type(2, one, half == size - 1 - half ? one : typeOfSize(size - 1 - half, unary));
  }

  private int chain(int unary, int height) {
    return chain(unary, height, alpha);
  }

  private int chain(int unary, int height, int lowest) {
    int type = lowest;
    for (int i = 1; i < height; i++) {
      type = twin.type(unary, type, 0);
    }
    return type;
  }

  private void heightOfTypes() {
    int unary = twin.constructor(1);
    int high = chain(unary, 24);
    works("height 24");
    twin.typeSymbol(high, 23);
    latest("its last symbol", "-1");
    twin.type(unary, high, 0);
    latest("height 25", Checks.STATE);
    twin.type(2, alpha, high);
    latest("height 25, of functions", Checks.STATE);
    twin.type(2, high, alpha);
    latest("height 25, of functions from it", Checks.STATE);
    int truths = twin.type(0, 0, 0);
    latest("the next handle", Integer.toString(high + 1));
    int alike = chain(unary, 24, truths);
    int c = twin.declare(high);
    int ofAlpha = twin.constant(c, high);
    works("a constant of height 24");
    int ofTruths = twin.constant(c, alike);
    works("the same of another type of height 24");
    twin.constant(c, chain(unary, 23, truths));
    latest("not of height 23", Checks.ARGUMENT);
    twin.match(ofAlpha, ofTruths);
    latest("its type fits", "0");
    twin.match(ofTruths, ofAlpha);
    latest("not the other way", "-1");
    twin.match(twin.free(1, high), ofTruths);
    latest("a variable of height 24", "1");
    twin.retype(ofAlpha, 0, truths);
    works("retyped at height 24");
    twin.same(ofTruths, twin.plain.terms.size() - 1);
    latest("the same", "1");
  }

  private void symbolsOfTypes() {
    int unary = twin.constructor(1);
    int most = typeOfSize(200, unary);
    works("200 symbols");
    twin.typeSymbol(most, 199);
    works("the last symbol");
    twin.typeSymbol(most, 200);
    latest("none behind it", Checks.INDEX);
    twin.type(unary, most, 0);
    latest("201 symbols", Checks.STATE);
    int hundred = typeOfSize(100, unary);
    int ninetyNine = typeOfSize(99, unary);
    twin.type(2, hundred, ninetyNine);
    works("functions of 200 symbols");
    twin.type(2, hundred, hundred);
    latest("functions of 201 symbols", Checks.STATE);
  }

  private void typesTogether() {
    int unary = twin.constructor(1);
    int most = typeOfSize(200, unary);
    int x = twin.free(1, most);
    while (twin.plain.symbolsOfTypes() + 200 <= 6000) {
      twin.typeOf(x);
      works("within 6000");
    }
    twin.typeOf(x);
    latest("beyond 6000", Checks.STATE);
    while (twin.plain.symbolsOfTypes() < 6000) {
      twin.typeVariable(1);
      works("one more");
    }
    twin.typeVariable(1);
    latest("6001", Checks.STATE);
    twin.typeVariable(1000);
    latest("a wrong argument comes first", Checks.ARGUMENT);
    twin.type(0, 0, 0);
    latest("6001 by a constructor", Checks.STATE);
    twin.type(2, 0, 9999);
    latest("no type comes first", Checks.INDEX);
    twin.typeOf(x);
    latest("6001 by a term's type", Checks.STATE);
    int y = twin.free(2, alpha);
    works("terms go on");
    twin.abstraction(y, y);
    works("types without handles, too");
  }

  private void typesOfAbstractions() {
    int unary = twin.constructor(1);
    int hundred = twin.free(1, typeOfSize(100, unary));
    int ninetyNine = twin.free(2, typeOfSize(99, unary));
    int x = twin.free(3, alpha);
    int high = twin.free(4, chain(unary, 24));
    int lower = twin.free(5, chain(unary, 23));
    twin.abstraction(hundred, ninetyNine);
    works("200 symbols");
    twin.abstraction(hundred, hundred);
    latest("201 symbols", Checks.STATE);
    twin.abstraction(x, lower);
    works("height 24");
    twin.abstraction(x, high);
    latest("height 25 by the body", Checks.STATE);
    twin.abstraction(high, x);
    latest("height 25 by the variable", Checks.STATE);
    twin.free(9, alpha);
    latest("what was refused got no handle", "7");
  }

  private void retypedTooLarge() {
    int unary = twin.constructor(1);
    int x = twin.free(1, typeOfSize(21, unary));
    int eighteen = typeOfSize(18, unary);
    int high = chain(unary, 20);
    int c = twin.constant(twin.declare(alpha), endless);
    twin.retype(x, 0, eighteen);
    works("still small");
    for (int size = 19; size <= 24; size++) {
      twin.retype(x, 0, typeOfSize(size, unary));
    }
    latest("a free variable's type", Checks.STATE);
    twin.retype(c, 0, high);
    works("a constant's type of height 21");
    twin.retype(c, 0, chain(unary, 24));
    latest("a constant's type of height 25", Checks.STATE);
    int y = twin.free(2, alpha);
    int idle = twin.abstraction(twin.free(3, alpha), y);
    twin.retype(idle, 0, chain(unary, 24));
    latest("an abstraction's type", Checks.STATE);
    twin.retype(y, 0, chain(unary, 24));
    works("not more than height 24");
    int f = twin.free(4, twin.type(2, endless, alpha));
    int within = twin.apply(f, twin.abstraction(y, y));
    twin.retype(within, 0, chain(unary, 23));
    latest("a type within, not the term's own", Checks.STATE);
    twin.retype(within, 0, chain(unary, 22));
    works("height 24 within");
    twin.retype(within, 5, chain(unary, 24));
    works("a variable that is not there");
  }

  /** So many functions one upon the other, on a variable. */
  private int tower(int f, int x, int height) {
    int t = x;
    for (int i = 1; i < height; i++) {
      t = twin.apply(f, t);
    }
    return t;
  }

  private void heightOfTerms() {
    int f = twin.free(1, endless);
    int x = twin.free(2, alpha);
    int sixty = tower(f, x, 60);
    int sixtyOne = twin.apply(f, sixty);
    int high = twin.put(sixtyOne, x, sixty);
    works("height 120 by put");
    twin.measure(high, 1);
    latest("its height", "120");
    twin.put(sixtyOne, x, sixtyOne);
    latest("height 121 by put", Checks.STATE);
    twin.apply(f, high);
    latest("height 121 by an application", Checks.STATE);
    int g = twin.abstraction(x, x);
    twin.apply(g, high);
    latest("height 121 by an application of an abstraction", Checks.STATE);
    twin.abstraction(x, high);
    latest("height 121 by an abstraction", Checks.STATE);
    int over = twin.abstraction(x, sixtyOne);
    twin.open(over, sixty);
    works("height 120 by open");
    twin.same(high, high + 3);
    twin.open(over, sixtyOne);
    latest("height 121 by open", Checks.STATE);
    twin.part(high, 1);
    works("height 119 by part");
    twin.retype(high, 0, endless);
    works("height 120 by retype");
    twin.match(x, high);
    twin.matched(0);
    works("height 120 by matched");
    twin.match(high, high);
    latest("height 120 matched", "2");
    int b = twin.free(3, twin.type(2, alpha, endless));
    int left = twin.apply(twin.apply(b, high - 2), x);
    twin.measure(left, 1);
    int wide = twin.apply(twin.apply(b, x), twin.put(sixty, x, twin.part(sixty, 1)));
    twin.measure(wide, 1);
    twin.put(wide, x, sixtyOne);
    latest("too high on one side", Checks.STATE);
  }

  private int twoPlace;
  private int onePlace;
  private int variable;
  private int self;
  private final java.util.Map<Integer, Integer> bySize = new java.util.HashMap<>();

  private void termParts() {
    twoPlace = twin.free(1, twin.type(2, alpha, endless));
    onePlace = twin.free(2, endless);
    variable = twin.free(3, alpha);
    self = twin.abstraction(variable, variable);
  }

  /** A term of type alpha and of so many symbols (2 is none); few symbols in all are used up. */
  private int termOfSize(int size) {
    Integer known = bySize.get(size);
    if (known != null) {
      return known;
    }
    int t;
    if (size == 1) {
      t = variable;
    } else if (size == 3) {
      t = twin.apply(onePlace, variable);
    } else if (size == 4) {
      t = twin.apply(self, variable);
    } else if (size == 6) {
      t = twin.apply(self, termOfSize(3));
    } else {
      int half = (size - 3) / 2 == 2 ? 1 : (size - 3) / 2;
      int left = termOfSize(half);
      t = twin.apply(twin.apply(twoPlace, left), termOfSize(size - 3 - half));
    }
    bySize.put(size, t);
    return t;
  }

  private void symbolsOfTerms() {
    termParts();
    int nearly = termOfSize(3998);
    int most = twin.apply(onePlace, nearly);
    works("4000 symbols");
    twin.measure(most, 0);
    latest("so many", "4000");
    twin.apply(onePlace, most);
    latest("4002 symbols", Checks.STATE);
    twin.apply(self, nearly);
    latest("4001 symbols", Checks.STATE);
    twin.abstraction(variable, most);
    latest("4001 symbols by an abstraction", Checks.STATE);
    twin.abstraction(onePlace, nearly);
    works("3999 symbols by an abstraction");
    twin.symbol(most, 3999);
    works("the last symbol");
    twin.symbol(most, 4000);
    latest("none behind it", Checks.INDEX);
    twin.put(most, variable, termOfSize(3));
    latest("far too many by put", Checks.STATE);
    twin.put(nearly, variable, nearly);
    latest("farther by put", Checks.STATE);
    twin.put(twin.apply(onePlace, variable), variable, nearly);
    works("4000 symbols by put");
    twin.put(twin.apply(self, variable), variable, nearly);
    latest("4001 symbols by put", Checks.STATE);
    int over = twin.abstraction(variable, twin.apply(onePlace, variable));
    twin.open(over, most);
    latest("4002 symbols by open", Checks.STATE);
    twin.match(nearly, nearly);
    latest("a large match", "2");
  }

  private void termsTogether() {
    termParts();
    int large = termOfSize(1000);
    int fx = twin.apply(onePlace, variable);
    int over = twin.abstraction(variable, fx);
    while (twin.plain.symbolsOfTerms() + 1000 <= 30000) {
      twin.put(large, self, self);
      latest("no free variable", Checks.ARGUMENT);
      twin.put(large, onePlace, onePlace);
      works("within 30000");
    }
    twin.put(large, variable, variable);
    latest("beyond 30000", Checks.STATE);
    while (twin.plain.symbolsOfTerms() + 100 <= 30000) {
      twin.retype(termOfSize(100), 7, alpha);
    }
    while (twin.plain.symbolsOfTerms() + 3 <= 30000) {
      twin.part(twin.plain.terms.size() - 1, 1);
      twin.retype(fx, 7, alpha);
    }
    twin.match(fx, fx);
    while (twin.plain.symbolsOfTerms() < 30000) {
      twin.matched(1);
      works("one more");
    }
    full(large, fx, over);
  }

  private void full(int large, int fx, int over) {
    Checks.due("so many together", Long.toString(twin.plain.symbolsOfTerms()), "30000");
    twin.free(1, alpha);
    latest("30001 by free", Checks.STATE);
    twin.free(1000, alpha);
    latest("a wrong argument comes first", Checks.ARGUMENT);
    twin.constant(twin.declare(alpha), alpha);
    latest("30001 by constant", Checks.STATE);
    twin.constant(9, alpha);
    latest("no constant comes first", Checks.ARGUMENT);
    twin.apply(onePlace, variable);
    latest("by apply", Checks.STATE);
    twin.apply(variable, variable);
    latest("no functions come first", Checks.ARGUMENT);
    twin.abstraction(variable, variable);
    latest("by abstraction", Checks.STATE);
    twin.abstraction(large, variable);
    latest("no variable comes first", Checks.ARGUMENT);
    twin.part(fx, 1);
    latest("by part", Checks.STATE);
    twin.part(fx, 2);
    latest("no part comes first", Checks.ARGUMENT);
    twin.open(over, variable);
    latest("by open", Checks.STATE);
    twin.open(over, over);
    latest("another type comes first", Checks.ARGUMENT);
    twin.put(variable, variable, variable);
    latest("by put", Checks.STATE);
    twin.put(variable, variable, over);
    latest("another type comes first in put", Checks.ARGUMENT);
    twin.retype(variable, 0, alpha);
    latest("by retype", Checks.STATE);
    twin.retype(variable, 1000, alpha);
    latest("a wrong number comes first", Checks.ARGUMENT);
    twin.matched(1);
    latest("by matched", Checks.STATE);
    twin.matched(2);
    latest("no variable comes first in matched", Checks.INDEX);
    twin.match(fx, fx);
    latest("a match makes nothing", "2");
    twin.typeOf(variable);
    works("types go on");
  }

  /** A free variable of a type of which nearly each symbol is a different type with alpha in it. */
  private int manyTypes() {
    int type = alpha;
    for (int i = 0; i < 13; i++) {
      int unary = twin.constructor(1);
      type = twin.type(2, chain(unary, 11), type);
    }
    return twin.free(1, type);
  }

  private void differentTypes() {
    int x = manyTypes();
    int large = twin.retype(x, 0, twin.typeVariable(1));
    works("one more time");
    int before = twin.plain.differentTypes();
    int n = 2;
    for (; n < 200 && twin.plain.differentTypes() + MANY <= 8000; n++) {
      twin.retype(large, 1, twin.typeVariable(n));
      works("many more types");
    }
    Checks.due("many", twin.plain.differentTypes() > before + 5000 ? "many" : "few", "many");
    int last = twin.typeVariable(n);
    twin.retype(large, 1, last);
    latest("too many different types", Checks.STATE);
    twin.retype(large, 1, last);
    latest("and again", Checks.STATE);
    twin.retype(large, 1, alpha);
    works("the same types again are none more");
    for (n = n + 1; twin.plain.differentTypes() < 8000; n++) {
      twin.typeVariable(n);
      works("what was refused left no types");
    }
    fullOfTypes(n, large);
  }

  private void fullOfTypes(int n, int large) {
    Checks.due("so many", Integer.toString(twin.plain.differentTypes()), "8000");
    twin.typeVariable(n);
    latest("8001 by typeVariable", Checks.STATE);
    twin.typeVariable(0);
    works("a type that is there already");
    twin.type(2, endless, endless);
    latest("8001 by type", Checks.STATE);
    twin.type(2, alpha, alpha);
    works("functions that are there already");
    int y = twin.free(2, alpha);
    twin.abstraction(y, y);
    works("an abstraction of a type that is there");
    twin.abstraction(y, twin.free(3, endless));
    latest("8001 by abstraction", Checks.STATE);
    twin.retype(y, 0, endless);
    works("a type that is there, by retype");
    twin.retype(large, 1, endless);
    latest("too many by retype", Checks.STATE);
    twin.typeOf(large);
    works("a term's type is there already");
  }

  private void lastDifferentType() {
    int x = manyTypes();
    int f = twin.free(5, endless);
    int y = twin.free(6, alpha);
    int high = twin.put(tower(f, y, 60), y, tower(f, y, 61));
    int n = 1;
    for (; n < 200 && twin.plain.differentTypes() + MANY <= 8000; n++) {
      twin.retype(x, 0, twin.typeVariable(n));
    }
    for (; twin.plain.differentTypes() < 7999; n++) {
      twin.typeVariable(n);
    }
    int other = twin.free(7, twin.plain.types.size() - 1);
    twin.abstraction(other, high);
    latest("too high, with a new type", Checks.STATE);
    twin.type(0, 0, 0);
    works("it left no type, so another one is the last one");
    twin.abstraction(other, y);
    latest("there is no room for it now", Checks.STATE);
  }

  /** Types that a refused call made are gone, and can be made again. */
  private void forgottenTypes() {
    int unary = twin.constructor(1);
    int high = chain(unary, 23);
    int x = twin.free(1, alpha);
    int b = twin.free(2, twin.type(2, alpha, endless));
    int t = twin.apply(b, x);
    twin.retype(t, 0, high);
    latest("too high", Checks.STATE);
    for (int n = 1; n < 40; n++) {
      twin.typeVariable(n);
    }
    int again = twin.type(2, high, high);
    works("height 24");
    twin.typeSymbol(again, 0);
    latest("functions", "2");
    twin.typeSymbol(again, 24);
    latest("to that type", Integer.toString(unary));
    twin.abstraction(twin.free(3, high), twin.free(4, high));
    twin.typeOf(twin.plain.terms.size() - 1);
    twin.sameType(again, twin.plain.types.size() - 1);
    latest("it is one type", "1");
  }

  private void manyVariables() {
    int b = twin.free(0, twin.type(2, alpha, endless));
    int t = twin.free(1, alpha);
    for (int n = 2; n < 60; n++) {
      t = twin.apply(twin.apply(b, twin.free(n, alpha)), t);
    }
    twin.match(t, t);
    latest("sixty variables", "60");
    twin.matched(59);
    twin.symbol(twin.plain.terms.size() - 1, 0);
    latest("the last one", "5");
    int retyped = twin.retype(t, 0, endless);
    twin.match(t, retyped);
    latest("all of another type", "60");
    twin.match(retyped, t);
    latest("not the other way", "-1");
    int pair = twin.free(0, twin.type(2, alpha, twin.type(2, endless, alpha)));
    int both = twin.apply(twin.apply(pair, t), retyped);
    twin.match(both, both);
    latest("each number in two types", "121");
    twin.matched(120);
    twin.typeOf(twin.plain.terms.size() - 1);
    twin.typeSymbol(twin.plain.types.size() - 1, 0);
    latest("the last one, of functions", "2");
  }

  /** A term of which each leaf is another free variable: copies of one, each with other types. */
  private void mostVariables() {
    int unary = twin.constructor(1);
    int t = twin.free(0, alpha);
    int twoPlaces = twin.type(2, alpha, endless);
    for (int n = 1; n <= 60; n++) {
      int part = twin.apply(twin.free(2 * n - 1, twoPlaces), twin.free(2 * n, alpha));
      t = twin.apply(part, t);
    }
    for (int half = 1; half <= 8; half *= 2) {
      int other = chain(unary, half + 1);
      int join = twin.free(900 + half, twin.type(2, alpha, twin.type(2, other, alpha)));
      int copy = twin.retype(t, 0, other);
      t = twin.apply(twin.apply(join, t), copy);
    }
    works("the term");
    twin.match(t, t);
    latest("each leaf is a variable", "1951");
    twin.matched(1950);
    works("the last one");
    twin.matched(1951);
    latest("none behind it", Checks.INDEX);
    twin.match(t, twin.retype(t, 0, twin.typeVariable(1)));
    latest("with another type", "1951");
    twin.matched(1000);
    works("one of them");
  }
}
