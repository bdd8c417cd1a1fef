import java.util.Random;

/** Runs of drawn calls, right ones and wrong ones, on the program and on the model. */
public final class ModelTest {
    private static final int RUNS = 3000;
    private static final int CALLS = 511;

    private final Check check;
    private final Random random;
    private final SeedBattle game = new SeedBattle();
    private final Model model = new Model();
    private final int run;
    private int units;

    private ModelTest(Check check, int run) {
        this.check = check;
        this.run = run;
        this.random = new Random(run);
    }

    public static void main(String[] args) {
        int runs = args.length > 0 ? Integer.parseInt(args[0]) : RUNS;
        Check check = new Check("ModelTest");
        for (int run = 0; run < runs; run++) {
            new ModelTest(check, run).play();
        }
        check.end();
    }

    private void play() {
        both("setSeed", () -> game.setSeed(seed()), () -> model.setSeed(seed()));
        int many = run % 4 == 0 ? 100 : random.nextInt(30);
        int side = 3 + random.nextInt(6);
        for (int at = 0; at < many; at++) {
            addUnit(random.nextInt(side) + 8 * random.nextInt(side));
        }
        int busy = 1 + random.nextInt(20);
        int wrong = random.nextInt(3) == 0 ? 20 : 300;
        for (int call = many + 1; call < CALLS; call++) {
            int kind = random.nextInt(busy + 24);
            if (kind < busy) {
                order(wrong);
            } else {
                drawn(kind - busy, wrong);
            }
        }
    }

    private int seed() {
        return run % 5 == 0 ? -run : run * 7919;
    }

    /** A number from 0 to less than the bound, or now and then one just outside. */
    private int draw(int bound, int wrong) {
        if (random.nextInt(wrong) == 0) {
            int[] outside = {-1, bound, bound + 1, Integer.MIN_VALUE, Integer.MAX_VALUE, 64, 24};
            return outside[random.nextInt(outside.length)];
        }
        return bound > 0 ? random.nextInt(bound) : 0;
    }

    private void both(String what, Check.Call real, Check.Call due) {
        Object expected;
        try {
            expected = due.run();
        } catch (Model.Refused e) {
            expected = "throws." + e.getMessage();
        }
        check.same("run " + run + ": " + what, Check.answer(real), expected);
        check.same("run " + run + ": checksum behind " + what, game.checksum(), model.checksum());
    }

    private void addUnit(int cell) {
        int player = draw(4, 100);
        char kind = random.nextInt(100) == 0 ? 'x' : "ssaat".charAt(random.nextInt(5));
        both("addUnit(" + player + ", " + kind + ", " + cell + ")",
            () -> game.addUnit(player, kind, cell), () -> model.addUnit(player, kind, cell));
        units = 0;
        while (units < 24 && !(Check.answer(() -> game.cellOf(units)) instanceof String)) {
            units++;
        }
    }

    private void order(int wrong) {
        int unit = draw(units, wrong);
        int direction = draw(8, wrong);
        both("order(" + unit + ", " + direction + ")",
            () -> game.order(unit, direction), () -> model.order(unit, direction));
    }

    private void drawn(int kind, int wrong) {
        int player = draw(4, wrong);
        int other = draw(4, wrong);
        int cell = draw(64, wrong);
        int unit = draw(units, wrong);
        int small = draw(16, wrong);
        int place = draw(62, wrong);
        boolean is = random.nextInt(3) > 0;
        switch (kind) {
            case 0: case 1: case 2: case 3:
                both("turn()", game::turn, model::turn);
                break;
            case 4:
                both("cellOf(" + unit + ")", () -> game.cellOf(unit), () -> model.cellOf(unit));
                both("unitOn(" + cell + ")", () -> game.unitOn(cell), () -> model.unitOn(cell));
                break;
            case 5:
                both("sees(" + unit + ", " + cell + ")", () -> game.sees(unit, cell), () -> model.sees(unit, cell));
                both("seen(" + player + ")", () -> game.seen(player), () -> model.seen(player));
                break;
            case 6: case 7:
                both("setTreaty(" + player + ", " + other + ", " + is + ")",
                    () -> game.setTreaty(player, other, is), () -> model.setTreaty(player, other, is));
                break;
            case 8: case 9:
                sighting(player, place, random.nextInt(wrong) == 0 ? 'q' : "tcu".charAt(random.nextInt(3)));
                break;
            case 10:
                both("age(" + player + ", " + cell + ")", () -> game.age(player, cell), () -> model.age(player, cell));
                both("lastSeen(" + player + ", " + unit + ")",
                    () -> game.lastSeen(player, unit), () -> model.lastSeen(player, unit));
                break;
            case 11:
                both("save()", game::save, model::save);
                break;
            case 12: case 13: case 14:
                breakBlock(player, small);
                break;
            default:
                more(kind, player, place, cell);
        }
    }

    private void sighting(int player, int place, char what) {
        both("sightings(" + player + ")", () -> game.sightings(player), () -> model.sightings(player));
        both("sighting(" + player + ", " + place + ", " + what + ")",
            () -> game.sighting(player, place, what), () -> model.sighting(player, place, what));
    }

    private void breakBlock(int player, int block) {
        both("blocks(" + player + ")", () -> game.blocks(player), () -> model.blocks(player));
        both("breakBlock(" + player + ", " + block + ")",
            () -> game.breakBlock(player, block), () -> model.breakBlock(player, block));
    }

    private void more(int kind, int player, int place, int cell) {
        switch (kind) {
            case 15: case 16:
                both("savedAt(" + player + ", " + place + ")",
                    () -> game.savedAt(player, place), () -> model.savedAt(player, place));
                break;
            case 17: case 18:
                both("repair(" + player + ")", () -> game.repair(player), () -> model.repair(player));
                break;
            case 19:
                both("load(" + player + ")", () -> game.load(player), () -> model.load(player));
                break;
            case 20:
                both("allies(" + player + ")", () -> game.allies(player), () -> model.allies(player));
                both("livingShare()", game::livingShare, model::livingShare);
                break;
            case 21:
                both("meanAge()", game::meanAge, model::meanAge);
                both("isSound()", game::isSound, model::isSound);
                break;
            case 22:
                both("setSeed(5)", () -> game.setSeed(5), () -> model.setSeed(5));
                both("ground(" + cell + ")", () -> game.ground(cell), () -> model.ground(cell));
                break;
            default:
                addUnit(cell);
                both("done()", game::done, model::done);
        }
    }
}
