/** What the chapters 'What it is' and 'Terms' say, but for matching, sentence by sentence. */
final class EdgesOfChapter {
  private static final String TERMS = "Terms";

  private EdgesOfChapter() {}

  static void all() {
    whatItIs();
    types();
    typeLimits();
    typesWithinTerms();
    terms();
    variables();
    measures();
    termLimits();
    handles();
    together();
    differentTypes();
    prefixOrder();
    puttingIn();
    exceptions();
  }

  private static final class ManyTypeHandles extends Scene {
    ManyTypeHandles() {
      for (int n = 0; n < 511; n++) {
        twin.typeVariable(n);
      }
    }
  }

  private static final class ManyTermHandles extends Scene {
    final int alpha = twin.typeVariable(0);

    ManyTermHandles() {
      for (int n = 0; n < 510; n++) {
        twin.free(n, alpha);
      }
    }
  }

  private static void whatItIs() {
    new Edge<>("What it is", "what is alike but for the names of bound variables is the same.",
        Started::new)
        .answers("another name", s -> s.twin.same(
            s.over, s.twin.abstraction(s.y, s.twin.apply(s.f, s.y))), 1)
        .answers("a free name", s -> s.twin.same(s.fx, s.twin.apply(s.f, s.y)), 0)
        .answers("a name that is not used", s -> s.twin.same(
            s.idle, s.twin.abstraction(s.twin.free(9, s.alpha), s.x)), 1);
    String calls = "An object is used for at most 512 calls after it has been made;";
    new Edge<>("What it is", calls, ManyTypeHandles::new)
        .answers("512 types", s -> s.twin.typeVariable(511), 511)
        .answers("a type after 511 calls", s -> s.twin.typeSymbol(510, 0), -511);
    new Edge<>("What it is", calls, ManyTermHandles::new)
        .answers("511 terms", s -> s.twin.free(510, s.alpha), 510)
        .answers("a term after 511 calls", s -> s.twin.symbol(509, 0), 2037)
        .answers("a match after 511 calls", s -> s.twin.match(509, 0), 1);
  }

  private static void types() {
    new Edge<>(TERMS, "A type is a VARIABLE n (0 .. 999) or a CONSTRUCTOR with as many types as it",
        Started::new)
        .within(0, 999, Checks.ARGUMENT, (s, n) -> s.twin.typeVariable(n))
        .within(0, 0, Checks.INDEX, (s, i) -> s.twin.typeSymbol(s.truths, i))
        .within(0, 0, Checks.INDEX, (s, i) -> s.twin.typeSymbol(s.things, i))
        .within(0, 2, Checks.INDEX, (s, i) -> s.twin.typeSymbol(s.endless, i));
    new Edge<>(TERMS, "more can be declared, up to 40 in all, which take 0 .. 2.",
        () -> new Scenes.Constructors(39))
        .answers("the last one that takes one", s -> s.twin.typeSymbol(
            s.twin.type(s.twin.constructor(1), s.alpha, 0), 1), -1)
        .answers("the last one that takes two", s -> s.twin.typeSymbol(
            s.twin.type(s.twin.constructor(2), s.alpha, s.alpha), 0), 39)
        .within(0, 2, Checks.ARGUMENT, (s, takes) -> s.twin.constructor(takes));
  }

  /** A type of height 24 on one of height 1. */
  private static final class Chain extends Started {
    final int high;

    Chain(int constructor) {
      high = typeOfHeight(24, constructor < 0 ? alpha : twin.type(constructor, 0, 0));
    }
  }

  private static void typeLimits() {
    String sentence = "A type has at most 200 SYMBOLS (variables and constructors in it) and HEIGHT 24";
    new Edge<>(TERMS, sentence, Scenes.LargeTypes::new)
        .within(0, 199, Checks.INDEX, (s, i) -> s.twin.typeSymbol(s.most, i))
        .allowed("100 to 99", s -> s.twin.type(2, s.hundred, s.ninetyNine))
        .allowed("99 to 100", s -> s.twin.type(2, s.ninetyNine, s.hundred))
        .refused("100 to 100", s -> s.twin.type(2, s.hundred, s.hundred), Checks.STATE)
        .allowed("one more than 199", s -> s.twin.type(s.unary, s.nearly, 0))
        .refused("one more than 200", s -> s.twin.type(s.unary, s.most, 0), Checks.STATE)
        .refused("199 to 1", s -> s.twin.type(2, s.nearly, s.alpha), Checks.STATE)
        .refused("1 to 199", s -> s.twin.type(2, s.alpha, s.nearly), Checks.STATE);
    for (int lowest : new int[] {-1, 0, 1, 4}) {
      new Edge<>(TERMS, sentence, () -> new Chain(lowest))
          .within(0, 23, Checks.INDEX, (s, i) -> s.twin.typeSymbol(s.high, i))
          .allowed("height 24 on " + lowest, s -> s.twin.type(s.unary, s.high - 1, 0))
          .refused("height 25 on " + lowest, s -> s.twin.type(s.unary, s.high, 0), Checks.STATE);
    }
    for (Scenes.Way way : Scenes.Way.values()) {
      new Edge<>(TERMS, "else 1 more than the greatest one of what it takes);",
          () -> new Scenes.HighTypes(way))
          .allowed("23 to 1", s -> s.twin.type(2, s.height23, s.alpha))
          .allowed("1 to 23", s -> s.twin.type(2, s.alpha, s.height23))
          .allowed("23 to 23", s -> s.twin.type(2, s.height23, s.height23))
          .refused("24 to 1", s -> s.twin.type(2, s.height24, s.alpha), Checks.STATE)
          .refused("1 to 24", s -> s.twin.type(2, s.alpha, s.height24), Checks.STATE)
          .refused("24 to 24", s -> s.twin.type(2, s.height24, s.height24), Checks.STATE);
    }
  }

  /** A term of truths, of which what stands within has larger types. */
  private static final class Within extends Started {
    final int ninetyNine = typeOfSize(99);
    final int hundred = twin.type(unary, ninetyNine, 0);
    final int height22 = typeOfHeight(22, alpha);
    final int height23 = twin.type(unary, height22, 0);
    final int height24 = twin.type(unary, height23, 0);
    final int ofFunctions = twin.free(5, twin.type(2, alpha, truths));
    final int inner = twin.apply(ofFunctions, twin.apply(self, x));
    final int bound = twin.apply(twin.abstraction(ofFunctions, truth), ofFunctions);
  }

  private static void typesWithinTerms() {
    new Edge<>(TERMS, "also that of each application, abstraction and variable within a term.",
        Within::new)
        .allowed("an abstraction of 199 symbols", s -> s.twin.retype(s.inner, 0, s.ninetyNine))
        .refused("of 201 symbols", s -> s.twin.retype(s.inner, 0, s.hundred), Checks.STATE)
        .allowed("an abstraction of height 24", s -> s.twin.retype(s.inner, 0, s.height23))
        .refused("of height 25", s -> s.twin.retype(s.inner, 0, s.height24), Checks.STATE)
        .allowed("a variable's functions of height 23", s -> s.twin.retype(s.bound, 0, s.height22))
        .refused("the binder's of height 25", s -> s.twin.retype(s.bound, 0, s.height23), Checks.STATE);
    new Edge<>(TERMS, "also that of each application, abstraction and variable within a term.",
        Scenes.LargeTypes::new)
        .allowed("200 symbols by an abstraction", s -> s.twin.abstraction(s.ofHundred, s.ofNinetyNine))
        .refused("201 symbols", s -> s.twin.abstraction(s.ofHundred, s.ofHundred), Checks.STATE)
        .allowed("a variable of 200 symbols", s -> s.twin.free(9, s.most));
  }

  private static void terms() {
    new Edge<>(TERMS, "TERMS, each of a type: a FREE variable n (0 .. 999) of a type;", Started::new)
        .within(0, 999, Checks.ARGUMENT, (s, n) -> s.twin.free(n, s.endless));
    new Edge<>(TERMS, "a CONSTANT, which was declared with a type, and has any type that this one",
        Started::new)
        .allowed("truths for a variable", s -> s.twin.constant(s.declared, s.truths))
        .allowed("functions for a variable", s -> s.twin.constant(s.declared, s.twoPlaces))
        .allowed("nothing put in", s -> s.twin.constant(s.twin.declare(s.endless), s.endless))
        .allowed("functions for functions", s -> s.twin.constant(
            s.twin.declare(s.endless), s.twin.type(2, s.endless, s.endless)))
        .answers("of one type", s -> s.twin.same(
            s.twin.constant(s.declared, s.truths), s.twin.constant(s.declared, s.truths)), 1)
        .answers("of two types", s -> s.twin.same(s.c, s.twin.constant(s.declared, s.truths)), 0);
    new Edge<>(TERMS, "an APPLICATION f x of a term of functions to one of the type that these are",
        Started::new)
        .answers("to functions", s -> s.twin.typeSymbol(s.twin.typeOf(s.gx), 0), 2)
        .answers("to alpha", s -> s.twin.typeSymbol(s.twin.typeOf(s.gxy), 0), -1)
        .refused("not from that type", s -> s.twin.apply(s.g, s.truth), Checks.ARGUMENT);
    new Edge<>(TERMS, "an ABSTRACTION over a variable of a type, with a BODY (of functions from that",
        Started::new)
        .answers("functions", s -> s.twin.typeSymbol(
            s.twin.typeOf(s.twin.abstraction(s.truth, s.x)), 0), 2)
        .answers("from truths", s -> s.twin.typeSymbol(
            s.twin.typeOf(s.twin.abstraction(s.truth, s.x)), 1), 0)
        .answers("to alpha", s -> s.twin.typeSymbol(
            s.twin.typeOf(s.twin.abstraction(s.truth, s.x)), 2), -1);
    new Edge<>(TERMS, "Free variables with one number and different types are different ones.",
        Started::new)
        .answers("not the same", s -> s.twin.same(s.x, s.truth), 0)
        .answers("not within", s -> s.twin.occurs(s.truth, s.fx), 0)
        .answers("not put in for", s -> s.twin.same(
            s.twin.put(s.fx, s.truth, s.twin.free(9, s.truths)), s.fx), 1)
        .answers("not bound", s -> s.twin.occurs(s.x, s.twin.abstraction(s.truth, s.fx)), 1);
  }

  /** 60 abstractions of which the outermost one binds the variable within all of them. */
  private static final class Deep extends Started {
    final int z = twin.free(9, twin.type(2, endless, alpha));
    final int body = body();
    final int deep = twin.abstraction(x, body);

    private int body() {
      int t = x;
      for (int i = 0; i < 59; i++) {
        t = twin.apply(z, twin.abstraction(y, t));
      }
      return t;
    }
  }

  private static void variables() {
    new Edge<>(TERMS, "A variable that an abstraction binds has no name: it is told by how many",
        Deep::new)
        .answers("59 lie between", s -> s.twin.symbol(s.deep, 178), 236)
        .answers("opened with its variable", s -> s.twin.same(s.twin.open(s.deep, s.x), s.body), 1)
        .answers("opened with a constant", s -> s.twin.symbol(s.twin.open(s.deep, s.c), 177), 2)
        .answers("it fits itself", s -> s.twin.match(s.deep, s.deep), 1)
        .answers("a free variable does not fit it", s -> s.twin.match(
            s.twin.abstraction(s.y, s.body), s.deep), -1)
        .answers("the innermost", s -> s.twin.symbol(s.self, 1), 0)
        .answers("height 120", s -> s.twin.measure(s.deep, 1), 120)
        .refused("height 121", s -> s.twin.abstraction(s.y, s.deep), Checks.STATE);
  }

  private static void measures() {
    new Edge<>(TERMS, "SYMBOLS of a term: 1 of a variable (bound or free) or constant, those of both",
        Started::new)
        .answers("a free variable", s -> s.twin.measure(s.x, 0), 1)
        .answers("a constant", s -> s.twin.measure(s.c, 0), 1)
        .answers("an application", s -> s.twin.measure(s.fx, 0), 3)
        .answers("a bound variable, and its abstraction", s -> s.twin.measure(s.self, 0), 2)
        .answers("both parts", s -> s.twin.measure(s.twin.apply(s.over, s.gxy), 0), 10);
    new Edge<>(TERMS, "Its HEIGHT: 1 likewise;", Started::new)
        .answers("a free variable", s -> s.twin.measure(s.x, 1), 1)
        .answers("a constant", s -> s.twin.measure(s.c, 1), 1)
        .answers("a bound variable, and its abstraction", s -> s.twin.measure(s.self, 1), 2);
    new Edge<>(TERMS, "1 more than the greater one of its parts', or its body's.", Started::new)
        .answers("f is higher", s -> s.twin.measure(s.gxy, 1), 3)
        .answers("x is higher", s -> s.twin.measure(s.twin.apply(s.f, s.gxy), 1), 4)
        .answers("both alike", s -> s.twin.measure(s.twin.apply(s.gx, s.fx), 1), 3)
        .answers("f is much higher", s -> s.twin.measure(
            s.twin.apply(s.twin.apply(s.g, s.gxy), s.fx), 1), 5)
        .answers("a body", s -> s.twin.measure(s.twin.abstraction(s.x, s.gxy), 1), 4);
  }

  private static void termLimits() {
    String sentence = "A term has at most 4000 symbols and height 120.";
    new Edge<>(TERMS, sentence, () -> new Scenes.LargeTerm(3998))
        .answers("4000", s -> s.twin.measure(s.twin.apply(s.f, s.large), 0), 4000);
    new Edge<>(TERMS, sentence, () -> new Scenes.LargeTerm(3999))
        .answers("4000 by an abstraction", s -> s.twin.measure(s.twin.abstraction(s.x, s.large), 0), 4000)
        .refused("4001", s -> s.twin.apply(s.f, s.large), Checks.STATE)
        .refused("4003", s -> s.twin.apply(s.self, s.large), Checks.STATE)
        .refused("8001", s -> s.twin.put(s.twice, s.x, s.large), Checks.STATE);
    new Edge<>(TERMS, sentence, Scenes.HighTerms::new)
        .answers("height 120", s -> s.twin.measure(s.twin.apply(s.f, s.height119), 1), 120)
        .refused("height 121", s -> s.twin.apply(s.f, s.height120), Checks.STATE)
        .refused("height 135", s -> s.twin.put(s.height16, s.x, s.height120), Checks.STATE)
        .refused("height 239", s -> s.twin.put(s.height120, s.x, s.height120), Checks.STATE);
  }

  private static void handles() {
    String sentence = "Each type that a call makes gets the next handle 0, 1, .. of types, each term";
    new Edge<>(TERMS, sentence, Scene::new)
        .answers("the first type", s -> s.twin.typeVariable(4), 0)
        .answers("one like it", s -> s.twin.typeVariable(s.twin.typeVariable(0)), 1)
        .answers("the first term", s -> s.twin.free(4, s.twin.typeVariable(4)), 0);
    new Edge<>(TERMS, sentence, Started::new)
        .answers("a type like one before", s -> s.twin.type(0, 0, 0), 5)
        .answers("a term's type", s -> s.twin.typeOf(s.x), 5)
        .answers("a term like one before", s -> s.twin.free(1, s.alpha), 12)
        .answers("an application like one before", s -> s.twin.apply(s.f, s.x), 12)
        .answers("an abstraction like one before", s -> s.twin.abstraction(s.x, s.fx), 12)
        .answers("a part", s -> s.twin.part(s.fx, 1), 12)
        .answers("what is opened", s -> s.twin.open(s.over, s.x), 12)
        .answers("what is put in", s -> s.twin.put(s.fx, s.y, s.y), 12)
        .answers("what is retyped", s -> s.twin.retype(s.fx, 7, s.alpha), 12)
        .answers("what is matched", s -> s.twin.matched(0), 12)
        .answers("no type's handle by an abstraction", s -> {
          s.twin.abstraction(s.truth, s.truth);
          s.twin.typeVariable(0);
        }, 5)
        .answers("nor by retype", s -> {
          s.twin.retype(s.gxy, 0, s.truths);
          s.twin.typeVariable(0);
        }, 5)
        .answers("nor a term's by typeOf", s -> {
          s.twin.typeOf(s.gxy);
          s.twin.free(1, s.alpha);
        }, 12)
        .answers("nor any by a match", s -> {
          s.twin.match(s.gxy, s.gxy);
          s.twin.free(1, s.alpha);
        }, 12);
  }

  private static void together() {
    String sentence = "All terms that have handles have at most 30000 symbols together, all types";
    new Edge<>(TERMS, sentence, () -> new Scenes.FullTerms(0))
        .refused("30001", s -> s.twin.free(0, s.alpha), Checks.STATE)
        .allowed("types go on", s -> s.twin.typeVariable(5))
        .allowed("of constructors, too", s -> s.twin.type(2, s.truths, s.truths))
        .allowed("of terms, too", s -> s.twin.typeOf(s.gxy))
        .answers("questions go on", s -> s.twin.same(s.fx, s.fx), 1);
    new Edge<>(TERMS, sentence, () -> new Scenes.FullTypes(0))
        .refused("6001", s -> s.twin.typeVariable(0), Checks.STATE)
        .allowed("terms go on", s -> s.twin.free(9, s.alpha))
        .allowed("of types without a handle, too", s -> s.twin.abstraction(s.truth, s.truth))
        .allowed("which retype makes, too", s -> s.twin.retype(s.gxy, 0, s.truths));
    new Edge<>(TERMS, sentence, () -> new Scenes.FullTerms(2))
        .refused("too large a term", s -> s.twin.apply(s.f, s.x), Checks.STATE)
        .allowed("a smaller one", s -> s.twin.abstraction(s.x, s.x));
    new Edge<>(TERMS, sentence, () -> new Scenes.FullTypes(2))
        .refused("too large a type", s -> s.twin.type(2, s.alpha, s.alpha), Checks.STATE)
        .allowed("a smaller one", s -> s.twin.type(s.unary, s.alpha, 0));
  }

  private static void differentTypes() {
    String sentence = "All different types that there are (of handles, of the symbols of terms that";
    new Edge<>(TERMS, sentence, () -> new Scenes.ManyTypes(1))
        .allowed("8000 by a handle", s -> s.twin.typeVariable(900))
        .allowed("8000 by a term's symbol", s -> s.twin.abstraction(s.truth, s.truth))
        .refused("8001 by what these take", s -> s.twin.retype(s.ofTwo, 0, s.truths), Checks.STATE);
    new Edge<>(TERMS, sentence, () -> new Scenes.ManyTypes(0))
        .refused("8001 by a handle", s -> s.twin.typeVariable(900), Checks.STATE)
        .refused("8001 by an abstraction", s -> s.twin.abstraction(s.truth, s.truth), Checks.STATE)
        .refused("8001 by retype", s -> s.twin.retype(s.fx, 0, s.truths), Checks.STATE)
        .allowed("a type like one that is there", s -> s.twin.type(2, s.alpha, s.alpha))
        .allowed("a variable of a type that is there", s -> s.twin.free(9, s.truths))
        .allowed("a constant", s -> s.twin.constant(s.declared, s.truths))
        .allowed("an application", s -> s.twin.apply(s.f, s.y))
        .allowed("an abstraction", s -> s.twin.abstraction(s.y, s.x))
        .allowed("a part", s -> s.twin.part(s.gxy, 0))
        .allowed("an abstraction opened", s -> s.twin.open(s.over, s.y))
        .allowed("a term put in", s -> s.twin.put(s.gxy, s.x, s.fx))
        .allowed("what was matched", s -> s.twin.matched(0));
    new Edge<>(TERMS, sentence, () -> new Scenes.ManyTypes(1))
        .answers("the last one is retyped", s -> {
          int t = s.twin.abstraction(s.truth, s.truth);
          s.twin.same(s.twin.retype(t, 7, s.alpha), t);
        }, 1)
        .answers("and fits", s -> s.twin.match(s.self, s.twin.abstraction(s.truth, s.truth)), 0)
        .answers("a last variable's place is taken", s -> {
          int last = s.twin.free(1, s.twin.typeVariable(900));
          s.twin.same(s.twin.retype(last, 900, s.truths), s.truth);
        }, 1);
    new Edge<>(TERMS, sentence, () -> Scenes.ManyTypes.withoutHandles(1))
        .allowed("8000 behind a refused variable", s -> {
          s.twin.typeVariable(900);
          s.twin.abstraction(s.truth, s.truth);
        })
        .allowed("8000 behind a refused type", s -> {
          s.twin.type(2, s.truths, s.things);
          s.twin.abstraction(s.truth, s.truth);
        });
  }

  private static void prefixOrder() {
    new Edge<>(TERMS, "A type: variable n as -1 - n, constructor c as c, then what it takes.",
        () -> new Scenes.Constructors(40))
        .answers("variable 0", s -> s.twin.typeSymbol(s.alpha, 0), -1)
        .answers("variable 999", s -> s.twin.typeSymbol(s.twin.typeVariable(999), 0), -1000)
        .answers("constructor 0", s -> s.twin.typeSymbol(s.twin.type(0, 0, 0), 0), 0)
        .answers("constructor 39", s -> s.twin.typeSymbol(s.twin.type(39, 0, 0), 0), 39)
        .answers("constructor 38", s -> s.twin.typeSymbol(
            s.twin.type(38, s.twin.typeVariable(5), s.alpha), 0), 38)
        .answers("what it takes first", s -> s.twin.typeSymbol(
            s.twin.type(38, s.twin.typeVariable(5), s.alpha), 1), -6)
        .answers("what it takes then", s -> s.twin.typeSymbol(
            s.twin.type(38, s.twin.typeVariable(5), s.alpha), 2), -1);
    new Edge<>(TERMS, "A term: an application -1, then both parts;", Started::new)
        .answers("an application", s -> s.twin.symbol(s.fx, 0), -1)
        .answers("its f", s -> s.twin.symbol(s.fx, 1), 13)
        .answers("its x", s -> s.twin.symbol(s.fx, 2), 5);
    new Edge<>(TERMS, "an abstraction -2, then its body;", Started::new)
        .answers("an abstraction", s -> s.twin.symbol(s.over, 0), -2)
        .answers("its body", s -> s.twin.symbol(s.over, 1), -1);
    new Edge<>(TERMS, "a bound variable 4 i, a free one 4 n + 1, a constant 4 c + 2.",
        () -> new Scenes.Constants(200))
        .answers("bound 0", s -> s.twin.symbol(over(s, 0), 1), 0)
        .answers("bound 1", s -> s.twin.symbol(s.twin.abstraction(
            s.twin.free(1, s.alpha), s.twin.abstraction(
                s.twin.free(2, s.alpha), s.twin.free(1, s.alpha))), 2), 4)
        .answers("free 0", s -> s.twin.symbol(s.twin.free(0, s.alpha), 0), 1)
        .answers("free 999", s -> s.twin.symbol(s.twin.free(999, s.alpha), 0), 3997)
        .answers("constant 0", s -> s.twin.symbol(s.twin.constant(0, s.alpha), 0), 2)
        .answers("constant 199", s -> s.twin.symbol(s.twin.constant(199, s.alpha), 0), 798);
  }

  private static int over(Scenes.Constants s, int n) {
    int v = s.twin.free(n, s.alpha);
    return s.twin.abstraction(v, v);
  }

  private static void puttingIn() {
    new Edge<>(TERMS, "TO PUT a term s in for a free variable v of its type: each v becomes s",
        Started::new)
        .answers("y stays free below y's binder", s -> s.twin.symbol(
            s.twin.put(s.twin.abstraction(s.y, s.gxy), s.x, s.y), 4), 9)
        .answers("what was bound stays so", s -> s.twin.symbol(
            s.twin.put(s.twin.abstraction(s.y, s.gxy), s.x, s.y), 5), 0)
        .answers("each one", s -> s.twin.same(
            s.twin.put(s.twin.apply(s.gx, s.x), s.x, s.fx),
            s.twin.apply(s.twin.apply(s.g, s.fx), s.fx)), 1)
        .answers("once, not again", s -> s.twin.measure(s.twin.put(s.fx, s.x, s.fx), 0), 5);
    new Edge<>(TERMS, "To OPEN an abstraction with a term of the bound variable's type: its body",
        Started::new)
        .answers("y stays free below y's binder", s -> s.twin.symbol(
            s.twin.open(s.twin.abstraction(s.x, s.twin.abstraction(s.y, s.gxy)), s.y), 4), 9)
        .answers("what is bound within stays so", s -> s.twin.symbol(
            s.twin.open(s.twin.abstraction(s.x, s.twin.abstraction(s.y, s.gxy)), s.y), 5), 0)
        .answers("each place", s -> s.twin.same(
            s.twin.open(s.twin.abstraction(s.x, s.twin.apply(s.gx, s.x)), s.fx),
            s.twin.apply(s.twin.apply(s.g, s.fx), s.fx)), 1);
    new Edge<>(TERMS, "To put a type u in for type variable n: in all types of all symbols.",
        Started::new)
        .answers("a free variable's", s -> s.twin.occurs(
            s.twin.free(1, s.truths), s.twin.retype(s.fx, 0, s.truths)), 1)
        .answers("a constant's", s -> s.twin.same(
            s.twin.retype(s.c, 0, s.truths), s.twin.constant(s.declared, s.truths)), 1)
        .answers("an application's", s -> s.twin.sameType(
            s.twin.typeOf(s.twin.retype(s.fx, 0, s.truths)), s.truths), 1)
        .answers("an abstraction's and what it binds", s -> s.twin.same(
            s.twin.open(s.twin.retype(s.self, 0, s.truths), s.truth), s.truth), 1)
        .answers("what is not used, too", s -> s.twin.same(
            s.twin.open(s.twin.retype(s.idle, 0, s.truths), s.truth), s.truth), 1);
  }

  private static void exceptions() {
    new Edge<>(TERMS, "Exceptions, the first that applies: IndexOutOfBoundsException: a handle that",
        () -> new Scenes.FullTerms(0))
        .refused("before all else, apply", s -> s.twin.apply(s.x, s.terms()), Checks.INDEX)
        .refused("before all else, put", s -> s.twin.put(s.x, s.c, s.terms()), Checks.INDEX)
        .refused("before all else, retype", s -> s.twin.retype(s.x, -1, s.types()), Checks.INDEX);
    new Edge<>(TERMS, "IllegalArgumentException: what the call names;", () -> new Scenes.FullTerms(0))
        .refused("before too many, apply", s -> s.twin.apply(s.x, s.x), Checks.ARGUMENT)
        .refused("before too many, put", s -> s.twin.put(s.x, s.c, s.x), Checks.ARGUMENT)
        .refused("before too many, retype", s -> s.twin.retype(s.x, -1, s.alpha), Checks.ARGUMENT);
    String state = "IllegalStateException: it would be too many symbols, too high, or too many";
    new Edge<>(TERMS, state, () -> new Scenes.LargeTerm(4000))
        .refused("too many symbols", s -> s.twin.abstraction(s.x, s.large), Checks.STATE);
    new Edge<>(TERMS, state, Scenes.HighTerms::new)
        .refused("too high", s -> s.twin.abstraction(s.x, s.height120), Checks.STATE);
    new Edge<>(TERMS, state, () -> new Scenes.FullTerms(1))
        .refused("too many together", s -> s.twin.abstraction(s.x, s.x), Checks.STATE);
  }
}
