import java.util.Objects;

/** Counts and prints what a test finds wrong. */
final class Check {
    interface Call {
        Object run();
    }

    private final String name;
    private int checked;
    private int wrong;

    Check(String name) {
        this.name = name;
    }

    void same(String what, Object got, Object due) {
        checked++;
        if (!Objects.equals(got, due)) {
            wrong++;
            System.out.println(name + ": " + what + " answered " + got + ", due is " + due);
        }
    }

    /** Answers of calls, with a thrown exception as the text "throws." and its name. */
    static Object answer(Call call) {
        try {
            return call.run();
        } catch (RuntimeException e) {
            return "throws." + e.getClass().getSimpleName();
        }
    }

    void due(String what, Object due, Call call) {
        same(what, answer(call), due);
    }

    private void refuses(String what, String exception, SeedBattle game, Call call) {
        String before = State.of(game);
        same(what, answer(call), "throws." + exception);
        same("the game behind " + what, State.of(game), before);
    }

    void noIndex(String what, SeedBattle game, Call call) {
        refuses(what, "IndexOutOfBoundsException", game, call);
    }

    void noArgument(String what, SeedBattle game, Call call) {
        refuses(what, "IllegalArgumentException", game, call);
    }

    void unsupported(String what, SeedBattle game, Call call) {
        refuses(what, "UnsupportedOperationException", game, call);
    }

    void noState(String what, SeedBattle game, Call call) {
        refuses(what, "IllegalStateException", game, call);
    }

    void noElement(String what, SeedBattle game, Call call) {
        refuses(what, "NoSuchElementException", game, call);
    }

    void noNumber(String what, SeedBattle game, Call call) {
        refuses(what, "ArithmeticException", game, call);
    }

    void end() {
        System.out.println(name + ": " + checked + " checks, " + wrong + " wrong");
        if (wrong > 0 || checked == 0) {
            System.exit(1);
        }
    }
}
