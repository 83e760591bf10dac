/** A call of GreetedMirrors by its name. */
final class CallOf {
    private CallOf() {
    }

    static int answer(GreetedMirrors x, String name, int a, int b, boolean is) {
        return switch (name) {
            case "feed" -> x.feed(a);
            case "house" -> x.house();
            case "fault" -> x.fault();
            case "told" -> x.told(a);
            case "mirror" -> x.mirror(a, b);
            case "doorOf" -> x.doorOf(a, b);
            case "person" -> x.person(a);
            case "sees" -> x.sees(a, b);
            case "step" -> x.step(a);
            case "greet" -> x.greet(a, b);
            case "steam" -> x.steam(a, is);
            case "door" -> x.door(a, is);
            case "night" -> x.night();
            case "envelope" -> x.envelope(a);
            case "walk" -> x.walk(a, b);
            case "drift" -> x.drift(a);
            case "undo" -> x.undo();
            case "round" -> x.round(a, b);
            case "cannot" -> x.cannot();
            case "steps" -> x.steps(a);
            case "mostSeen" -> x.mostSeen(a);
            case "learn" -> x.learn();
            case "steamed" -> x.steamed(a, b);
            case "ask" -> x.ask(a, b, is);
            case "changed" -> x.changed(a);
            case "askNext" -> x.askNext();
            case "called" -> x.called(a);
            case "write" -> x.write(a, b);
            case "tear" -> x.tear();
            case "judge" -> x.judge();
            case "seed" -> x.seed(a);
            case "keep" -> x.keep(a);
            case "goBack" -> x.goBack(a);
            default -> throw new IllegalArgumentException(name);
        };
    }
}
