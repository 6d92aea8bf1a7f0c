/** Promises 1 to 6 and 19, sentence by sentence. */
final class EdgesOfTypes {
  private static final int LEAST = Integer.MIN_VALUE;
  private static final int MOST = Integer.MAX_VALUE;

  private EdgesOfTypes() {}

  static void all() {
    newObject();
    constructor();
    typeVariable();
    type();
    typeSymbol();
    declare();
    sameType();
  }

  private static final class OneType extends Scene {
    final int alpha = twin.typeVariable(0);
  }

  private static void newObject() {
    String promise = "Promise 1";
    String sentence = "Nothing but the three constructors.";
    new Edge<>(promise, sentence, Scene::new)
        .answers("truths", s -> s.twin.type(0, 0, 0), 0)
        .answers("things", s -> s.twin.type(1, 0, 0), 0)
        .answers("the next constructor", s -> s.twin.constructor(0), 3)
        .refused("functions, but no types", s -> s.twin.type(2, 0, 0), Checks.INDEX)
        .refused("no fourth constructor", s -> s.twin.type(3, 0, 0), Checks.ARGUMENT)
        .refused("no type to tell", s -> s.twin.typeSymbol(0, 0), Checks.INDEX)
        .refused("no type to declare", s -> s.twin.declare(0), Checks.INDEX)
        .refused("no type of a variable", s -> s.twin.free(0, 0), Checks.INDEX)
        .refused("no type of a constant", s -> s.twin.constant(0, 0), Checks.INDEX)
        .refused("no types to compare", s -> s.twin.sameType(0, 0), Checks.INDEX)
        .refused("no match", s -> s.twin.matched(0), Checks.INDEX);
    new Edge<>(promise, sentence, OneType::new)
        .answers("the first constant", s -> s.twin.declare(0), 0)
        .answers("the first term", s -> s.twin.free(0, 0), 0)
        .answers("the second type", s -> s.twin.typeVariable(0), 1)
        .refused("no constant", s -> s.twin.constant(0, 0), Checks.ARGUMENT)
        .refused("no term to apply", s -> s.twin.apply(0, 0), Checks.INDEX)
        .refused("no term to bind in", s -> s.twin.abstraction(0, 0), Checks.INDEX)
        .refused("no term with parts", s -> s.twin.part(0, 0), Checks.INDEX)
        .refused("no term to open", s -> s.twin.open(0, 0), Checks.INDEX)
        .refused("no term to put in", s -> s.twin.put(0, 0, 0), Checks.INDEX)
        .refused("no term to retype", s -> s.twin.retype(0, 0, 0), Checks.INDEX)
        .refused("no term of a type", s -> s.twin.typeOf(0), Checks.INDEX)
        .refused("no term to tell", s -> s.twin.symbol(0, 0), Checks.INDEX)
        .refused("no term to measure", s -> s.twin.measure(0, 0), Checks.INDEX)
        .refused("no terms to compare", s -> s.twin.same(0, 0), Checks.INDEX)
        .refused("no term to occur in", s -> s.twin.occurs(0, 0), Checks.INDEX)
        .refused("no terms to match", s -> s.twin.match(0, 0), Checks.INDEX);
  }

  private static void constructor() {
    String promise = "Promise 2";
    new Edge<>(promise, "A new constructor that takes so many types: its number.", OneType::new)
        .answers("that takes none", s -> s.twin.type(s.twin.constructor(0), LEAST, MOST), 1)
        .answers("that takes one", s -> s.twin.type(s.twin.constructor(1), 0, MOST), 1)
        .answers("that takes two", s -> s.twin.type(s.twin.constructor(2), 0, 0), 1);
    new Edge<>(promise, "A new constructor that takes so many types: its number.",
        () -> new Scenes.Constructors(6))
        .refused("takes one, and gets none", s -> s.twin.type(4, 1, 0), Checks.INDEX)
        .refused("takes two, and gets one", s -> s.twin.type(5, 0, 1), Checks.INDEX)
        .refused("takes two, and gets the other", s -> s.twin.type(5, 1, 0), Checks.INDEX)
        .answers("its number", s -> s.twin.constructor(0), 6);
    new Edge<>(promise, "IllegalArgumentException if it is not 0 .. 2;", Scene::new)
        .within(0, 2, Checks.ARGUMENT, (s, takes) -> s.twin.constructor(takes));
    String full = "IllegalStateException if there are 40.";
    new Edge<>(promise, full, () -> new Scenes.Constructors(39))
        .answers("the last one, taking none", s -> s.twin.constructor(0), 39)
        .answers("the last one, taking one", s -> s.twin.constructor(1), 39)
        .answers("the last one, taking two", s -> s.twin.constructor(2), 39)
        .refused("it is not there yet", s -> s.twin.type(39, 0, 0), Checks.ARGUMENT);
    new Edge<>(promise, full, () -> new Scenes.Constructors(40))
        .refused("one more, taking none", s -> s.twin.constructor(0), Checks.STATE)
        .refused("one more, taking one", s -> s.twin.constructor(1), Checks.STATE)
        .refused("one more, taking two", s -> s.twin.constructor(2), Checks.STATE)
        .refused("a wrong argument comes first", s -> s.twin.constructor(3), Checks.ARGUMENT)
        .refused("a negative one, too", s -> s.twin.constructor(-1), Checks.ARGUMENT)
        .answers("the last one is there", s -> s.twin.type(39, LEAST, MOST), 1)
        .refused("there is none behind it", s -> s.twin.type(40, 0, 0), Checks.ARGUMENT);
  }

  private static void typeVariable() {
    String promise = "Promise 3";
    new Edge<>(promise, "A type variable.", OneType::new)
        .answers("the next handle", s -> s.twin.typeVariable(5), 1)
        .answers("also of one that is there", s -> s.twin.typeVariable(0), 1)
        .answers("its symbol", s -> s.twin.typeSymbol(s.twin.typeVariable(5), 0), -6);
    new Edge<>(promise, "IllegalArgumentException if it is not 0 .. 999.", Scene::new)
        .within(0, 999, Checks.ARGUMENT, (s, n) -> s.twin.typeVariable(n));
    String full = "IllegalStateException as above.";
    new Edge<>(promise, full, () -> new Scenes.FullTypes(1))
        .allowed("6000 symbols together", s -> s.twin.typeVariable(0));
    new Edge<>(promise, full, () -> new Scenes.FullTypes(0))
        .refused("6001 symbols together", s -> s.twin.typeVariable(0), Checks.STATE)
        .refused("a wrong argument comes first", s -> s.twin.typeVariable(1000), Checks.ARGUMENT);
    new Edge<>(promise, full, () -> new Scenes.ManyTypes(1))
        .allowed("8000 different types", s -> s.twin.typeVariable(900));
    new Edge<>(promise, full, () -> new Scenes.ManyTypes(0))
        .refused("8001 different types", s -> s.twin.typeVariable(900), Checks.STATE)
        .refused("a wrong argument comes first", s -> s.twin.typeVariable(-1), Checks.ARGUMENT)
        .allowed("one that is there", s -> s.twin.typeVariable(0));
  }

  private static void type() {
    String promise = "Promise 4";
    new Edge<>(promise, "A type of a constructor, and of the types that it takes", Started::new)
        .allowed("truths look at no handle", s -> s.twin.type(0, LEAST, MOST))
        .allowed("things look at no handle", s -> s.twin.type(1, -1, s.types()))
        .allowed("nor one of ours that takes none", s -> s.twin.type(s.nullary, MOST, LEAST))
        .allowed("one that takes one looks at one", s -> s.twin.type(s.unary, s.alpha, -1))
        .allowed("not at the other", s -> s.twin.type(s.unary, s.alpha, s.types()))
        .allowed("the last handles there are",
            s -> s.twin.type(2, s.types() - 1, s.types() - 1))
        .answers("from the first", s -> s.twin.typeSymbol(s.twin.type(2, s.truths, s.things), 1), 0)
        .answers("to the second", s -> s.twin.typeSymbol(s.twin.type(2, s.truths, s.things), 2), 1);
    new Edge<>(promise, "IndexOutOfBoundsException;", Started::new)
        .noType("from no type", (s, wrong) -> s.twin.type(2, wrong, s.alpha))
        .noType("to no type", (s, wrong) -> s.twin.type(2, s.alpha, wrong))
        .noType("the one that it takes", (s, wrong) -> s.twin.type(s.unary, wrong, s.alpha));
    noConstructor(promise);
    typeLimits(promise, "IllegalStateException.");
  }

  private static void noConstructor(String promise) {
    String sentence = "IllegalArgumentException if there is no such constructor (this first);";
    new Edge<>(promise, sentence, Started::new)
        .within(0, 4, Checks.ARGUMENT, (s, number) -> s.twin.type(number, s.alpha, s.alpha))
        .refused("before no types", s -> s.twin.type(5, LEAST, MOST), Checks.ARGUMENT)
        .refused("a negative one before no types", s -> s.twin.type(-1, -1, -1), Checks.ARGUMENT);
    new Edge<>(promise, sentence, () -> new Scenes.FullTypes(0))
        .refused("before too many", s -> s.twin.type(5, 0, 0), Checks.ARGUMENT)
        .refused("no type before too many", s -> s.twin.type(2, 0, s.types()), Checks.INDEX);
    for (Scenes.Way way : Scenes.Way.values()) {
      new Edge<>(promise, sentence, () -> new Scenes.HighTypes(way))
          .refused("before too high", s -> s.twin.type(5, s.height24, 0), Checks.ARGUMENT)
          .refused("no type before too high", s -> s.twin.type(2, s.height24, -1), Checks.INDEX);
    }
  }

  private static void typeLimits(String promise, String sentence) {
    new Edge<>(promise, sentence, Scenes.LargeTypes::new)
        .allowed("200 symbols", s -> s.twin.type(2, s.hundred, s.ninetyNine))
        .refused("201 symbols", s -> s.twin.type(2, s.hundred, s.hundred), Checks.STATE)
        .refused("201 symbols of one", s -> s.twin.type(s.unary, s.most, 0), Checks.STATE);
    for (Scenes.Way way : Scenes.Way.values()) {
      new Edge<>(promise, sentence, () -> new Scenes.HighTypes(way))
          .allowed("height 24", s -> s.higher(s.height23))
          .refused("height 25", s -> s.higher(s.height24), Checks.STATE);
    }
    new Edge<>(promise, sentence, () -> new Scenes.FullTypes(1))
        .allowed("6000 symbols together", s -> s.twin.type(s.nullary, 0, 0))
        .refused("6004 symbols together", s -> s.twin.type(2, s.endless, s.alpha), Checks.STATE);
    new Edge<>(promise, sentence, () -> new Scenes.FullTypes(5))
        .allowed("6000 symbols together by 5", s -> s.twin.type(2, s.endless, s.alpha));
    new Edge<>(promise, sentence, () -> new Scenes.FullTypes(4))
        .refused("6001 symbols together by 5", s -> s.twin.type(2, s.endless, s.alpha), Checks.STATE)
        .allowed("6000 symbols together by 4", s -> s.twin.type(s.unary, s.endless, 0));
    new Edge<>(promise, sentence, () -> new Scenes.FullTypes(3))
        .refused("6001 symbols together by 4", s -> s.twin.type(s.unary, s.endless, 0), Checks.STATE);
    new Edge<>(promise, sentence, () -> new Scenes.FullTypes(0))
        .refused("6001 symbols together by 1", s -> s.twin.type(s.nullary, 0, 0), Checks.STATE);
    new Edge<>(promise, sentence, () -> new Scenes.ManyTypes(1))
        .allowed("8000 different types", s -> s.twin.type(2, s.truths, s.truths));
    new Edge<>(promise, sentence, () -> new Scenes.ManyTypes(0))
        .refused("8001 different types", s -> s.twin.type(2, s.truths, s.truths), Checks.STATE)
        .refused("8001 by one that takes none", s -> s.twin.type(s.nullary, 0, 0), Checks.STATE)
        .allowed("one that is there", s -> s.twin.type(2, s.alpha, s.alpha));
  }

  private static void typeSymbol() {
    String promise = "Promise 5";
    new Edge<>(promise, "A type's symbol i in prefix order.", Started::new)
        .answers("first", s -> s.twin.typeSymbol(s.twoPlaces, 0), 2)
        .answers("second", s -> s.twin.typeSymbol(s.twoPlaces, 1), -1)
        .answers("third", s -> s.twin.typeSymbol(s.twoPlaces, 2), 2);
    String none = "IndexOutOfBoundsException if there is no such type or symbol.";
    new Edge<>(promise, none, Started::new)
        .within(0, 4, Checks.INDEX, (s, i) -> s.twin.typeSymbol(s.twoPlaces, i))
        .within(0, 0, Checks.INDEX, (s, i) -> s.twin.typeSymbol(s.alpha, i))
        .noType("no type", (s, wrong) -> s.twin.typeSymbol(wrong, 0))
        .noType("no type and no symbol", (s, wrong) -> s.twin.typeSymbol(wrong, -1))
        .allowed("the last type", s -> s.twin.typeSymbol(s.types() - 1, 0))
        .refused("a term's handle is no type's", s -> s.twin.typeSymbol(s.idle, 0), Checks.INDEX);
    new Edge<>(promise, none, Scenes.LargeTypes::new)
        .within(0, 199, Checks.INDEX, (s, i) -> s.twin.typeSymbol(s.most, i));
    for (Scenes.Way way : Scenes.Way.values()) {
      new Edge<>(promise, none, () -> new Scenes.HighTypes(way))
          .within(0, way.symbols - 1, Checks.INDEX, (s, i) -> s.twin.typeSymbol(s.height24, i))
          .allowed("each symbol", s -> s.allSymbols(s.height24));
    }
  }

  private static void declare() {
    String promise = "Promise 6";
    new Edge<>(promise, "A new constant with a type: its number.", Started::new)
        .answers("its number", s -> s.twin.declare(s.truths), 1)
        .answers("of a type that another one has", s -> s.twin.declare(s.alpha), 1)
        .answers("its code", s -> s.twin.symbol(
            s.twin.constant(s.twin.declare(s.truths), s.truths), 0), 6)
        .allowed("of the last type", s -> s.twin.declare(s.types() - 1));
    new Edge<>(promise, "IndexOutOfBoundsException;", Started::new)
        .noType("no type", (s, wrong) -> s.twin.declare(wrong));
    String full = "IllegalStateException if there are 200.";
    new Edge<>(promise, full, () -> new Scenes.Constants(199))
        .answers("the last one", s -> s.twin.declare(s.alpha), 199)
        .refused("it is not there yet", s -> s.twin.constant(199, s.alpha), Checks.ARGUMENT);
    new Edge<>(promise, full, () -> new Scenes.Constants(200))
        .refused("one more", s -> s.twin.declare(s.alpha), Checks.STATE)
        .refused("no type comes first", s -> s.twin.declare(1), Checks.INDEX)
        .answers("the last one is there", s -> s.twin.symbol(s.twin.constant(199, s.alpha), 0), 798)
        .refused("there is none behind it", s -> s.twin.constant(200, s.alpha), Checks.ARGUMENT);
    new Edge<>(promise, "IllegalStateException if there are 200.", () -> new Scenes.FullTypes(0))
        .answers("it makes no type", s -> s.twin.declare(s.alpha), 1);
    new Edge<>(promise, "IllegalStateException if there are 200.", () -> new Scenes.FullTerms(0))
        .answers("and no term", s -> s.twin.declare(s.alpha), 1);
  }

  private static void sameType() {
    String promise = "Promise 19";
    new Edge<>(promise, "Whether two types are the same.", OneType::new)
        .answers("the only type", s -> s.twin.sameType(0, s.twin.typeVariable(0)), 1);
    new Edge<>(promise, "Whether two types are the same.", Started::new)
        .answers("itself", s -> s.twin.sameType(s.endless, s.endless), 1)
        .answers("one like it", s -> s.twin.sameType(s.endless, s.twin.type(2, s.alpha, s.alpha)), 1)
        .answers("what a term is of", s -> s.twin.sameType(s.endless, s.twin.typeOf(s.over)), 1)
        .answers("another constructor", s -> s.twin.sameType(s.truths, s.things), 0)
        .answers("a variable", s -> s.twin.sameType(s.alpha, s.things), 0)
        .answers("another variable", s -> s.twin.sameType(s.alpha, s.twin.typeVariable(1)), 0)
        .answers("its part", s -> s.twin.sameType(s.endless, s.twoPlaces), 0)
        .answers("the other way round", s -> s.twin.sameType(
            s.twin.type(2, s.truths, s.things), s.twin.type(2, s.things, s.truths)), 0);
    new Edge<>(promise, "IndexOutOfBoundsException.", Started::new)
        .noType("no first type", (s, wrong) -> s.twin.sameType(wrong, s.alpha))
        .noType("no second type", (s, wrong) -> s.twin.sameType(s.alpha, wrong))
        .noType("no type, twice", (s, wrong) -> s.twin.sameType(wrong, wrong))
        .allowed("the last type", s -> s.twin.sameType(s.types() - 1, s.types() - 1));
  }
}
