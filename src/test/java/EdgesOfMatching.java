/** Promises 21 and 22, and what the chapter 'Terms' says of matching, sentence by sentence. */
final class EdgesOfMatching {
  private static final String TERMS = "Terms";
  private static final String FITS =
      "A type fits another one if it is a variable (the same type at each further";

  private static final int LAST = 950;

  private EdgesOfMatching() {}

  static void all() {
    match();
    afterMisfit();
    matched();
    become();
    freeVariables();
    furtherPlaces();
    constants();
    boundVariables();
    applications();
    abstractions();
    types();
    order();
  }

  private static void match() {
    String promise = "Promise 21";
    new Edge<>(promise, "Matches: how many free variables of p became something;", Started::new)
        .answers("three", s -> s.twin.match(s.gxy, s.gxy), 3)
        .answers("one", s -> s.twin.match(s.x, s.gxy), 1)
        .answers("none", s -> s.twin.match(s.c, s.c), 0)
        .answers("none, with a binder", s -> s.twin.match(s.self, s.self), 0)
        .answers("each counts once", s -> s.twin.match(
            s.twin.apply(s.gx, s.x), s.twin.apply(s.gx, s.x)), 2);
    new Edge<>(promise, "Matches: how many free variables of p became something;",
        MostVariables::new)
        .answers("as many as there can be", s -> s.twin.match(s.most, s.most), 2000)
        .answers("half of them, of other types", s -> s.twin.match(s.half, s.copy), 999)
        .answers("not the other way", s -> s.twin.match(s.copy, s.half), -1)
        .answers("the last of them is forgotten", s -> {
          s.twin.match(s.most, s.most);
          int otherType = s.twin.free(LAST, s.truths);
          s.twin.match(s.ofTwo(otherType, s.last), s.ofTwo(s.truth, s.y));
        }, 3);
    new Edge<>(promise, "-1 if p does not fit.", Started::new)
        .answers("the first symbol", s -> s.twin.match(s.gxy, s.over), -1)
        .answers("the last symbol", s -> s.twin.match(
            s.twin.apply(s.gx, s.c), s.twin.apply(s.gx, s.x)), -1)
        .answers("a larger pattern", s -> s.twin.match(s.gxy, s.x), -1);
    new Edge<>(promise, "IndexOutOfBoundsException.", Started::new)
        .noTerm("no p", (s, wrong) -> s.twin.match(wrong, s.x))
        .noTerm("no t", (s, wrong) -> s.twin.match(s.x, wrong))
        .noTerm("neither", (s, wrong) -> s.twin.match(wrong, wrong))
        .allowed("the last term", s -> s.twin.match(s.terms() - 1, s.terms() - 1));
    new Edge<>(promise, "IndexOutOfBoundsException.", () -> new Scenes.FullTerms(0))
        .answers("it makes no term", s -> s.twin.match(s.gxy, s.gxy), 3);
    new Edge<>(promise, "IndexOutOfBoundsException.", () -> new Scenes.ManyTypes(0))
        .answers("and no type", s -> s.twin.match(s.fx, s.twin.apply(s.over, s.gxy)), 2);
  }

  /** A term of 3999 symbols with 2000 variables, all different: copies of one in other types. */
  private static final class MostVariables extends Started {
    final int half;
    final int copy;
    final int most;
    final int last = twin.free(LAST, alpha);

    MostVariables() {
      int t = twin.apply(twin.free(900, endless), x);
      for (int n = 10; n < 71; n++) {
        int part = twin.apply(twin.free(n, twoPlaces), twin.free(100 + n, alpha));
        t = twin.apply(part, t);
      }
      half = doubled(doubled(doubled(t, 1, alpha), 2, alpha), 4, alpha);
      int functions = doubled(half, 8, endless);
      copy = twin.part(functions, 1);
      most = twin.apply(functions, last);
      Checks.due("symbols", twin.measure(most, 0) + "", "3999");
    }

    /** Of a truth and a term of alpha. */
    int ofTwo(int truth, int t) {
      int join = twin.free(970, twin.type(2, truths, endless));
      return twin.apply(twin.apply(join, truth), t);
    }

    /** A term and a copy of it, whose variables have types so much higher, together of a type. */
    private int doubled(int t, int higher, int type) {
      int other = typeOfHeight(higher + 1, alpha);
      int join = twin.free(900 + higher, twin.type(2, alpha, twin.type(2, other, type)));
      return twin.apply(twin.apply(join, t), twin.retype(t, 0, other));
    }
  }

  private static final class NoneBecame extends Started {
    final int none = twin.match(c, c);
  }

  private static final class Misfit extends Started {
    final int misfit = twin.match(gxy, x);
  }

  private static final class LateMisfit extends Started {
    final int misfit = twin.match(twin.apply(gx, c), gxy);
  }

  private static void matched() {
    String promise = "Promise 22";
    String what = "What the latest match() that fitted made of p's free variable i, in the order";
    new Edge<>(promise, what, Started::new)
        .answers("the first", s -> s.twin.same(s.twin.matched(0), s.g), 1)
        .answers("the second", s -> s.twin.same(s.twin.matched(1), s.x), 1)
        .answers("the last", s -> s.twin.same(s.twin.matched(2), s.y), 1)
        .answers("a new handle", s -> s.twin.matched(0), 12)
        .answers("again a new handle", s -> {
          s.twin.matched(0);
          s.twin.matched(0);
        }, 13)
        .answers("the latest match", s -> {
          s.twin.match(s.x, s.gxy);
          s.twin.measure(s.twin.matched(0), 0);
        }, 5)
        .answers("a binder of its own", s -> {
          s.twin.match(s.f, s.over);
          s.twin.same(s.twin.matched(0), s.over);
        }, 1)
        .answers("by first places", s -> {
          s.twin.match(s.twin.put(s.gxy, s.x, s.gxy), s.twin.put(s.gxy, s.x, s.gxy));
          s.twin.same(s.twin.matched(2), s.y);
        }, 1);
    noneMatched(promise);
    String state = "IllegalStateException.";
    new Edge<>(promise, state, () -> new Scenes.FullTerms(5))
        .allowed("30000 symbols together", s -> s.twin.matched(0));
    new Edge<>(promise, state, () -> new Scenes.FullTerms(4))
        .refused("30001 symbols together", s -> s.twin.matched(0), Checks.STATE)
        .refused("no such variable comes first", s -> s.twin.matched(1), Checks.INDEX);
    new Edge<>(promise, state, () -> new Scenes.FullTerms(0))
        .refused("no room at all", s -> s.twin.matched(0), Checks.STATE)
        .refused("no variable before comes first", s -> s.twin.matched(-1), Checks.INDEX);
  }

  /** A match that ends within two applications, at a variable that is bound outside of them. */
  private static final class BoundMisfit extends Started {
    final int misfit = twin.match(idle, twin.abstraction(x, gxy));
  }

  private static void afterMisfit() {
    new Edge<>("Promise 21", "-1 if p does not fit.", BoundMisfit::new)
        .answers("what is then matched", s -> s.twin.match(s.twin.apply(s.gx, s.fx), s.twin.apply(
            s.twin.apply(s.g, s.fx), s.twin.apply(s.f, s.fx))), 3)
        .answers("a part", s -> s.twin.same(s.twin.part(s.gxy, 0), s.gx), 1)
        .answers("the other part", s -> s.twin.same(s.twin.part(s.gxy, 1), s.y), 1)
        .answers("what is then bound", s -> s.twin.symbol(s.twin.abstraction(s.y, s.gxy), 5), 0)
        .answers("what is then opened", s -> s.twin.same(s.twin.open(s.over, s.x), s.fx), 1)
        .answers("a height", s -> s.twin.measure(s.twin.apply(s.gx, s.gxy), 1), 4);
  }

  private static void noneMatched(String promise) {
    String none = "IndexOutOfBoundsException if there is none such (also if the latest match() did not";
    new Edge<>(promise, none, Started::new)
        .within(0, 2, Checks.INDEX, (s, i) -> s.twin.matched(i))
        .refused("not after one that fitted more", s -> s.twin.matched(3), Checks.INDEX);
    new Edge<>(promise, none, Scene::new)
        .refused("there was no match", s -> s.twin.matched(0), Checks.INDEX);
    new Edge<>(promise, none, Misfit::new)
        .refused("the latest did not fit", s -> s.twin.matched(0), Checks.INDEX)
        .answers("one that fits again", s -> {
          s.twin.match(s.x, s.y);
          s.twin.same(s.twin.matched(0), s.y);
        }, 1);
    new Edge<>(promise, none, LateMisfit::new)
        .refused("it did not fit at its end", s -> s.twin.matched(0), Checks.INDEX)
        .answers("what it found is forgotten", s -> s.twin.match(s.gxy, s.twin.put(s.gxy, s.x, s.y)), 3);
    new Edge<>(promise, none, NoneBecame::new)
        .refused("no variable became something", s -> s.twin.matched(0), Checks.INDEX);
    new Edge<>(promise, none, () -> {
      MostVariables scene = new MostVariables();
      scene.twin.match(scene.most, scene.most);
      return scene;
    }).within(0, 1999, Checks.INDEX, (s, i) -> s.twin.matched(i));
  }

  /** Terms to be matched: of a free variable at two places, and with binders. */
  private static final class Patterns extends Started {
    final int fy = twin.apply(f, y);
    final int gxx = twin.apply(gx, x);
    final int gyy = twin.apply(twin.apply(g, y), y);
    final int w = twin.free(6, endless);
    final int overW = twin.abstraction(y, w);
    final int first = twin.abstraction(x, twin.abstraction(y, x));
    final int second = twin.abstraction(x, twin.abstraction(y, y));
    final int overGxy = twin.abstraction(y, gxy);
    final int z = twin.free(6, twin.type(2, endless, alpha));
  }

  private static void become() {
    new Edge<>(TERMS, "Free variables of p become terms, type variables of p types.", Patterns::new)
        .answers("a term", s -> {
          s.twin.match(s.fx, s.twin.apply(s.over, s.gxy));
          s.twin.same(s.twin.matched(1), s.gxy);
        }, 1)
        .answers("a type", s -> s.twin.match(s.x, s.truth), 1)
        .answers("a type of functions", s -> s.twin.match(s.x, s.over), 1)
        .answers("t's free variables do not", s -> s.twin.match(s.c, s.x), -1)
        .answers("nor its type variables", s -> s.twin.match(s.truth, s.x), -1)
        .answers("one name on both sides is nothing", s -> s.twin.match(s.fy, s.fx), 2);
  }

  private static void freeVariables() {
    new Edge<>(TERMS, "p FITS t if: p is a free variable: its type fits t's type, and in t no variable",
        Patterns::new)
        .answers("its type fits", s -> s.twin.match(s.f, s.self), 1)
        .answers("its type does not", s -> s.twin.match(s.f, s.x), -1)
        .answers("a constant", s -> s.twin.match(s.x, s.c), 1)
        .answers("nothing bound", s -> s.twin.match(s.idle, s.twin.abstraction(s.y, s.fx)), 1)
        .answers("bound outside", s -> s.twin.match(s.idle, s.over), -1)
        .answers("bound outside, alone", s -> s.twin.match(s.idle, s.self), -1)
        .answers("bound within", s -> s.twin.match(s.overW, s.twin.abstraction(s.y, s.over)), 1)
        .answers("bound farther outside", s -> s.twin.match(s.overW, s.first), -1)
        .answers("bound within, though one lies outside", s -> s.twin.match(s.overW, s.second), 1)
        .answers("an abstraction that was not gone into", s -> s.twin.match(s.f, s.over), 1)
        .answers("two of them", s -> s.twin.match(
            s.twin.free(7, s.twoPlaces), s.first), 1)
        .answers("behind an abstraction beside it", s -> s.twin.match(
            s.twin.apply(s.twin.apply(s.g, s.twin.apply(s.z, s.idle)), s.y),
            s.twin.apply(s.twin.apply(s.g, s.twin.apply(s.z, s.idle)), s.gxy)), 4);
  }

  private static void furtherPlaces() {
    String sentence = "at each further place of that variable (the same number and type) stands the";
    new Edge<>(TERMS, sentence, Patterns::new)
        .answers("the same term", s -> s.twin.match(s.gxx, s.gyy), 2)
        .answers("another term", s -> s.twin.match(s.gxx, s.gxy), -1)
        .answers("a larger term", s -> s.twin.match(s.gxx, s.twin.put(s.gyy, s.y, s.gxy)), 2)
        .answers("its part", s -> s.twin.match(s.gxx, s.twin.apply(s.gx, s.fx)), -1)
        .answers("other bound names", s -> s.twin.match(s.gxx, s.twin.apply(
            s.twin.apply(s.g, s.twin.apply(s.z, s.over)),
            s.twin.apply(s.z, s.twin.abstraction(s.y, s.fy)))), 2)
        .answers("another type within", s -> s.twin.match(s.gxx, s.twin.apply(
            s.twin.apply(s.g, ofConstant(s, s.alpha, s.x)), ofConstant(s, s.truths, s.truth))), -1)
        .answers("bound there", s -> s.twin.match(
            s.twin.abstraction(s.y, s.gxx), s.overGxy), -1)
        .answers("below a binder", s -> s.twin.match(
            s.twin.apply(s.twin.apply(s.g, s.x), s.twin.apply(s.z, s.idle)),
            s.twin.apply(s.twin.apply(s.g, s.fx), s.twin.apply(s.z, s.twin.abstraction(s.y, s.fx)))), 3);
    for (int number : new int[] {0, 999}) {
      new Edge<>(TERMS, sentence, Patterns::new)
          .answers("number " + number, s -> s.twin.match(twice(s, number), s.gyy), 2)
          .answers("number " + number + ", another term", s -> s.twin.match(
              twice(s, number), s.gxy), -1);
    }
    new Edge<>(TERMS, sentence, Patterns::new)
        .answers("not of the match before", s -> {
          s.twin.match(s.x, s.y);
          s.twin.match(ofConstantG(s, s.y, s.x), ofConstantG(s, s.fx, s.gxy));
        }, 2)
        .answers("nor of one that did not fit", s -> {
          s.twin.match(s.gxx, s.gxy);
          s.twin.match(ofConstantG(s, s.y, s.x), ofConstantG(s, s.fx, s.gxy));
        }, 2);
    for (int number : new int[] {0, 500, 999}) {
      new Edge<>(TERMS, sentence, Patterns::new)
          .answers("another number than " + number + ", of one type", s -> s.twin.match(
              ofConstantG(s, s.x, s.twin.free(number, s.alpha)), ofConstantG(s, s.fx, s.gxy)), 2)
          .answers("another number behind " + number, s -> s.twin.match(
              ofConstantG(s, s.twin.free(number, s.alpha), s.x), ofConstantG(s, s.fx, s.gxy)), 2);
    }
    new Edge<>(TERMS, "(Free variables of one number and different types are two.)", Patterns::new)
        .answers("the first one again", s -> s.twin.match(threePlaces(s), threeTerms(s, s.x)), 3)
        .answers("the first one again, another term", s -> s.twin.match(
            threePlaces(s), threeTerms(s, s.y)), -1)
        .answers("two terms", s -> s.twin.match(bothTypes(s), s.twin.apply(
            s.twin.apply(s.twin.free(8, s.twoPlaces), s.x), s.y)), 3)
        .answers("the first one's", s -> {
          s.twin.match(bothTypes(s), s.gxy);
          s.twin.same(s.twin.matched(1), s.x);
        }, 1)
        .answers("the other one's", s -> {
          s.twin.match(bothTypes(s), s.gxy);
          s.twin.same(s.twin.matched(2), s.y);
        }, 1);
  }

  private static int twice(Patterns s, int number) {
    int v = s.twin.free(number, s.alpha);
    return s.twin.apply(s.twin.apply(s.g, v), v);
  }

  /** A constant of two places, applied. */
  private static int ofConstantG(Patterns s, int a, int b) {
    return s.twin.apply(s.twin.apply(s.twin.constant(s.declared, s.twoPlaces), a), b);
  }

  /** One number in two types, and in the first one again. */
  private static int threePlaces(Patterns s) {
    int beta = s.twin.typeVariable(1);
    int from = s.twin.type(2, s.alpha, s.twin.type(2, beta, s.endless));
    int v = s.twin.free(9, s.alpha);
    int part = s.twin.apply(s.twin.apply(s.twin.free(8, from), v), s.twin.free(9, beta));
    return s.twin.apply(part, v);
  }

  private static int threeTerms(Patterns s, int last) {
    int from = s.twin.type(2, s.alpha, s.twin.type(2, s.truths, s.endless));
    int part = s.twin.apply(s.twin.apply(s.twin.free(7, from), s.x), s.truth);
    return s.twin.apply(part, last);
  }

  /** A constant from a type to alpha, applied: what it is applied to does not show in its type. */
  private static int ofConstant(Patterns s, int from, int to) {
    return s.twin.apply(s.twin.constant(s.declared, s.twin.type(2, from, s.alpha)), to);
  }

  /** Applied to one number in two types. */
  private static int bothTypes(Patterns s) {
    int beta = s.twin.typeVariable(1);
    int h = s.twin.free(8, s.twin.type(2, s.alpha, s.twin.type(2, beta, s.alpha)));
    return s.twin.apply(s.twin.apply(h, s.twin.free(9, s.alpha)), s.twin.free(9, beta));
  }

  private static void constants() {
    new Edge<>(TERMS, "a constant: t is that constant, and its type fits;", Patterns::new)
        .answers("that constant", s -> s.twin.match(s.c, s.c), 0)
        .answers("its type fits", s -> s.twin.match(s.c, s.twin.constant(s.declared, s.truths)), 0)
        .answers("its type does not fit", s -> s.twin.match(
            s.twin.constant(s.declared, s.truths), s.c), -1)
        .answers("nor truths to things", s -> s.twin.match(
            s.twin.constant(s.declared, s.truths), s.twin.constant(s.declared, s.things)), -1)
        .answers("another constant", s -> s.twin.match(
            s.c, s.twin.constant(s.twin.declare(s.alpha), s.alpha)), -1)
        .answers("a variable", s -> s.twin.match(s.c, s.x), -1)
        .answers("an application", s -> s.twin.match(s.c, s.fx), -1);
  }

  private static void boundVariables() {
    new Edge<>(TERMS, "a bound variable: t is that;", Patterns::new)
        .answers("that", s -> s.twin.match(s.first, s.first), 0)
        .answers("the other one", s -> s.twin.match(s.first, s.second), -1)
        .answers("the other way", s -> s.twin.match(s.second, s.first), -1)
        .answers("a free one", s -> s.twin.match(s.self, s.idle), -1)
        .answers("a constant", s -> s.twin.match(s.self, s.twin.abstraction(s.x, s.c)), -1)
        .answers("an application", s -> s.twin.match(s.self, s.over), -1);
  }

  private static void applications() {
    new Edge<>(TERMS, "an application: both parts fit;", Patterns::new)
        .answers("both", s -> s.twin.match(s.fx, s.twin.apply(s.over, s.gxy)), 2)
        .answers("f does not", s -> s.twin.match(
            s.twin.apply(s.self, s.x), s.twin.apply(s.over, s.x)), -1)
        .answers("x does not", s -> s.twin.match(
            s.twin.apply(s.f, s.c), s.twin.apply(s.f, s.x)), -1)
        .answers("a variable", s -> s.twin.match(s.fx, s.y), -1)
        .answers("a constant", s -> s.twin.match(s.fx, s.c), -1)
        .answers("an abstraction", s -> s.twin.match(s.gx, s.over), -1);
  }

  private static void abstractions() {
    new Edge<>(TERMS, "an abstraction: the bound variables' types fit, and the bodies.", Patterns::new)
        .answers("both", s -> s.twin.match(s.over, s.twin.abstraction(s.y, s.fy)), 1)
        .answers("of other types", s -> s.twin.match(
            s.self, s.twin.abstraction(s.truth, s.truth)), 0)
        .answers("the types do not", s -> s.twin.match(
            s.twin.abstraction(s.truth, s.truth), s.self), -1)
        .answers("the types do not, nothing is bound", s -> s.twin.match(
            s.twin.abstraction(s.truth, s.x), s.idle), -1)
        .answers("the bodies do not", s -> s.twin.match(s.self, s.over), -1)
        .answers("a variable of functions", s -> s.twin.match(s.over, s.f), -1)
        .answers("an application of functions", s -> s.twin.match(s.over, s.gx), -1)
        .answers("one type, two places", s -> s.twin.match(
            s.idle, s.twin.abstraction(s.truth, s.x)), -1);
  }

  private static final class Lists extends Started {
    final int beta = twin.typeVariable(1);
    final int lists = twin.free(5, twin.type(unary, alpha, 0));
    final int listsOfTruths = twin.free(5, twin.type(unary, truths, 0));
    final int mixed = twin.free(5, twin.type(2, alpha, beta));
    final int swapped = twin.free(5, twin.type(2, beta, alpha));
    final int toThings = twin.free(5, twin.type(2, truths, things));
    final int ofTruths = twin.free(5, twin.type(2, truths, truths));
    final int nothing = twin.free(5, twin.type(nullary, 0, 0));
  }

  private static void types() {
    new Edge<>(TERMS, FITS, Lists::new)
        .answers("a variable fits truths", s -> s.twin.match(s.x, s.truth), 1)
        .answers("and itself", s -> s.twin.match(s.x, s.y), 1)
        .answers("and what has it within", s -> s.twin.match(s.x, s.f), 1)
        .answers("the same type at two places", s -> s.twin.match(s.f, s.ofTruths), 1)
        .answers("two types at two places", s -> s.twin.match(s.f, s.toThings), -1)
        .answers("two variables, two types", s -> s.twin.match(s.mixed, s.toThings), 1)
        .answers("two variables, one type", s -> s.twin.match(s.mixed, s.ofTruths), 1)
        .answers("two variables, each other", s -> s.twin.match(s.mixed, s.swapped), 1)
        .answers("one variable for two", s -> s.twin.match(s.f, s.mixed), -1)
        .answers("the same constructor", s -> s.twin.match(s.truth, s.twin.free(9, s.truths)), 1)
        .answers("another one", s -> s.twin.match(s.truth, s.nothing), -1)
        .answers("no variable", s -> s.twin.match(s.truth, s.x), -1)
        .answers("what it takes fits", s -> s.twin.match(s.lists, s.listsOfTruths), 1)
        .answers("what it takes does not", s -> s.twin.match(s.listsOfTruths, s.lists), -1)
        .answers("functions are no lists", s -> s.twin.match(s.lists, s.f), -1)
        .answers("a further symbol", s -> s.twin.match(
            s.twin.apply(s.f, s.x), s.twin.apply(s.toThings, s.truth)), -1);
    for (Scenes.Way way : Scenes.Way.values()) {
      new Edge<>(TERMS, FITS, () -> new Scenes.HighTypes(way))
          .answers("height 24", s -> s.twin.match(s.of24, s.twin.retype(s.of24, 0, s.truths)), 1)
          .answers("height 24, not the other way", s -> s.twin.match(
              s.twin.retype(s.of24, 0, s.truths), s.of24), -1)
          .answers("height 23 fits 24", s -> s.twin.match(s.of23, s.of24), 1)
          .answers("height 24 does not fit 23", s -> s.twin.match(s.of24, s.of23), -1);
    }
    new Edge<>(TERMS, FITS, Scenes.LargeTypes::new)
        .answers("200 symbols", s -> s.twin.match(s.ofMost, s.twin.retype(s.ofMost, 0, s.truths)), 1)
        .answers("200 symbols, not the other way", s -> s.twin.match(
            s.twin.retype(s.ofMost, 0, s.truths), s.ofMost), -1);
  }

  private static void order() {
    new Edge<>(TERMS, "All is gone through in prefix order, an application's or abstraction's own",
        Patterns::new)
        .answers("f before x", s -> {
          s.twin.match(s.fx, s.twin.apply(s.over, s.gxy));
          s.twin.same(s.twin.matched(0), s.over);
        }, 1)
        .answers("an application of another type", s -> s.twin.match(
            s.fx, s.twin.retype(s.fx, 0, s.truths)), 2)
        .answers("an abstraction of another type", s -> s.twin.match(
            s.over, s.twin.retype(s.over, 0, s.truths)), 1);
  }
}
