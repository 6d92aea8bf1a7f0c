import java.util.List;
import java.util.function.Supplier;

/** Each call that can come next after a refused one is answered as if that had not been made. */
final class EdgesOfRefusals {
  private static final List<Edge.Step<Started>> NEXT = List.of(
      s -> s.twin.typeVariable(5),
      s -> s.twin.type(2, s.truths, s.things),
      s -> s.twin.typeOf(s.gxy),
      s -> s.twin.declare(s.truths),
      s -> s.twin.free(5, s.alpha),
      s -> s.twin.constant(s.declared, s.truths),
      s -> s.twin.apply(s.f, s.gxy),
      s -> s.twin.abstraction(s.y, s.gxy),
      s -> s.twin.abstraction(s.truth, s.gxy),
      s -> s.twin.part(s.gxy, 0),
      s -> s.twin.part(s.gxy, 1),
      s -> s.twin.open(s.over, s.gxy),
      s -> s.twin.put(s.gxy, s.x, s.y),
      s -> s.twin.retype(s.gxy, 0, s.truths),
      s -> s.twin.occurs(s.y, s.gxy),
      s -> s.twin.match(s.gxy, s.gxy),
      s -> s.twin.match(s.over, s.idle),
      s -> s.twin.matched(0));

  private EdgesOfRefusals() {}

  static void all() {
    next("an argument that is none", Started::new, List.of(
        s -> s.twin.constructor(3),
        s -> s.twin.typeVariable(1000),
        s -> s.twin.type(5, 0, 0),
        s -> s.twin.type(2, 0, s.types()),
        s -> s.twin.declare(s.types()),
        s -> s.twin.free(1000, s.alpha),
        s -> s.twin.constant(1, s.alpha),
        s -> s.twin.apply(s.x, s.x),
        s -> s.twin.abstraction(s.c, s.x),
        s -> s.twin.part(s.x, 0),
        s -> s.twin.open(s.x, s.x),
        s -> s.twin.put(s.gxy, s.x, s.truth),
        s -> s.twin.retype(s.gxy, 1000, s.truths),
        s -> s.twin.match(s.x, s.terms()),
        s -> s.twin.matched(3)));
    next("too many symbols", () -> new Scenes.LargeTerm(4000), List.of(
        s -> s.twin.apply(s.f, s.large),
        s -> s.twin.abstraction(s.x, s.large),
        s -> s.twin.open(s.overTwice, s.large),
        s -> s.twin.put(s.twice, s.x, s.large)));
    next("too high", Scenes.HighTerms::new, List.of(
        s -> s.twin.apply(s.f, s.height120),
        s -> s.twin.abstraction(s.x, s.height120),
        s -> s.twin.open(s.over61, s.height61),
        s -> s.twin.put(s.height120, s.x, s.height120)));
    next("too high by f", Scenes.HighFunctions::new, List.of(
        s -> s.twin.apply(s.height120, s.x),
        s -> s.twin.abstraction(s.x, s.twin.apply(s.height119, s.x))));
    next("too many symbols of a type", Scenes.LargeTypes::new, List.of(
        s -> s.twin.type(2, s.hundred, s.hundred),
        s -> s.twin.abstraction(s.ofHundred, s.ofHundred),
        s -> s.twin.retype(s.applied, 0, s.hundred),
        s -> s.twin.retype(s.ofList, 0, s.most)));
    nextWhenFull();
  }

  private static void nextWhenFull() {
    next("too many terms' symbols together", () -> new Scenes.FullTerms(6), List.of(
        s -> s.twin.apply(s.gx, s.fx),
        s -> s.twin.put(s.fx, s.x, s.gxy),
        s -> s.twin.open(s.over, s.gxy)));
    next("too many types' symbols together", () -> new Scenes.FullTypes(4), List.of(
        s -> s.twin.type(2, s.endless, s.endless),
        s -> s.twin.typeOf(s.g)));
    next("too many different types", () -> new Scenes.ManyTypes(1), List.of(
        s -> s.twin.retype(s.ofTwo, 0, s.truths),
        s -> s.twin.abstraction(s.truth, s.height120)));
  }

  private static <S extends Started> void next(
      String what, Supplier<S> scenes, List<Edge.Step<S>> refused) {
    for (int i = 0; i < refused.size(); i++) {
      for (int next = 0; next < NEXT.size(); next++) {
        S scene = scenes.get();
        refused.get(i).on(scene);
        String answer = scene.twin.latest.startsWith("throws") ? "refused" : scene.twin.latest;
        Checks.due(what + ", call " + i + ", then " + next, answer, "refused");
        NEXT.get(next).on(scene);
        scene.tellNewest();
      }
    }
  }
}
