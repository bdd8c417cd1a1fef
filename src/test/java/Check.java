import java.util.ArrayList;
import java.util.List;
import java.util.Objects;

/** Counts and prints what a test finds wrong. */
final class Check {
    interface Call {
        Object run();
    }

    /** Words of the document, and the part of it where they stand. */
    record Quote(String part, String words) {
    }

    private final String name;
    private final List<Quote> quotes = new ArrayList<>();
    private String sentence = "";
    private int checkedBefore = -1;
    private int checked;
    private int wrong;

    Check(String name) {
        this.name = name;
    }

    /** Quotes the sentence, or a part of it, that the checks behind this call look at. */
    void sentence(String part, String words) {
        leaveSentence();
        quotes.add(new Quote(part, words));
        sentence = part + ", \"" + words + "\": ";
        checkedBefore = checked;
    }

    /** A quote without a check behind it would only seem to be tested. */
    void leaveSentence() {
        if (checked == checkedBefore) {
            same("the number of its checks", 0, "1 or more");
        }
        sentence = "";
        checkedBefore = -1;
    }

    List<Quote> quotes() {
        return quotes;
    }

    void same(String what, Object got, Object due) {
        checked++;
        if (!Objects.equals(got, due)) {
            wrong++;
            System.out.println(name + ": " + sentence + what + " answered " + got + ", due is " + due);
        }
    }

    /** Answers of calls, with a thrown exception as the text "throws." and its name. */
    static Object answer(Call call) {
        try {
            return call.run();
        } catch (RuntimeException e) {
            return "throws." + e.getClass().getSimpleName();
        }
    }

    void due(String what, Object due, Call call) {
        same(what, answer(call), due);
    }

    void refuses(String what, String exception, SeedBattle game, Call call) {
        String before = State.of(game);
        same(what, answer(call), "throws." + exception);
        same("the game behind " + what, State.of(game), before);
    }

    void noIndex(String what, SeedBattle game, Call call) {
        refuses(what, "IndexOutOfBoundsException", game, call);
    }

    void noArgument(String what, SeedBattle game, Call call) {
        refuses(what, "IllegalArgumentException", game, call);
    }

    void unsupported(String what, SeedBattle game, Call call) {
        refuses(what, "UnsupportedOperationException", game, call);
    }

    void noState(String what, SeedBattle game, Call call) {
        refuses(what, "IllegalStateException", game, call);
    }

    void noElement(String what, SeedBattle game, Call call) {
        refuses(what, "NoSuchElementException", game, call);
    }

    void noNumber(String what, SeedBattle game, Call call) {
        refuses(what, "ArithmeticException", game, call);
    }

    /** Gives orders written as unit>direction, does the turn, looks at the losses and at all cells. */
    void play(String what, SeedBattle game, String orders, int lost, int... cells) {
        for (String order : orders.split(" ")) {
            if (!order.isEmpty()) {
                String[] parts = order.split(">");
                game.order(Integer.parseInt(parts[0]), Integer.parseInt(parts[1]));
            }
        }
        same(what + ": the lost", game.turn(), lost);
        for (int unit = 0; unit < cells.length; unit++) {
            same(what + ": cellOf(" + unit + ")", game.cellOf(unit), cells[unit]);
        }
        same(what + ": isSound", game.isSound(), true);
    }

    void end() {
        System.out.println(name + ": " + checked + " checks, " + wrong + " wrong");
        if (wrong > 0 || checked == 0) {
            System.exit(1);
        }
    }
}
