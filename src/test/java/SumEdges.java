import java.math.BigInteger;

/** Edges of promises 24 to 27; what makes a game unsound is in SoundTest. */
final class SumEdges {
    private final Check check;

    SumEdges(Check check) {
        this.check = check;
    }

    void run() {
        sumsOfCells();
        sharesOfTheLiving();
        meansOfAges();
        soundGames();
    }

    private static SeedBattle with(String units) {
        return Maps.with(Maps.plainGame(), units);
    }

    private void sumsOfCells() {
        check.sentence("Promise 24", "Returns 0 at first, then for each unit, by rising numbers, 31 times itself plus its cell.");
        check.same("without units", new SeedBattle().checksum(), 0L);
        SeedBattle game = Maps.with(Maps.game("0=l 1=l 62=l 63=l"), "0a0");
        check.same("one on the first cell", game.checksum(), 0L);
        Maps.with(game, "1s63 1s1");
        check.same("three", game.checksum(), 31L * 63 + 1);
        game.order(0, 2);
        game.turn();
        check.same("the last one is lost", game.checksum(), 31L * (31 * 1 + 63) - 1);
        SeedBattle full = new SeedBattle();
        Maps.fill(full, 24);
        BigInteger sum = BigInteger.ZERO;
        for (int unit = 0; unit < 24; unit++) {
            sum = sum.multiply(BigInteger.valueOf(31)).add(BigInteger.valueOf(full.cellOf(unit)));
        }
        check.same("24 units go beyond a long", sum.bitLength() > 64, true);
        check.same("and wrap around", full.checksum(), sum.longValue());
    }

    private void sharesOfTheLiving() {
        check.sentence("Promise 25", "Returns their number divided by that of all, both converted to float.");
        check.same("one of one", with("0s17").livingShare(), 1.0f);
        SeedBattle game = with("0a17 1s18 1s28");
        game.order(0, 2);
        game.turn();
        check.same("two of three", game.livingShare(), 0.6666667f);
        SeedBattle few = with("1s18 1s25 1s26 1t27 0a17 0a19 0a28 0a20");
        for (String order : "4>2 5>4 6>6".split(" ")) {
            few.order(order.charAt(0) - '0', order.charAt(2) - '0');
        }
        check.same("the lost", few.turn(), 2);
        check.same("six of eight", few.livingShare(), 0.75f);
        SeedBattle full = new SeedBattle();
        Maps.fill(full, 24);
        check.same("24 of 24", full.livingShare(), 1.0f);
    }

    private void meansOfAges() {
        check.sentence("Promise 26", "Returns the sum of their ages divided by their number, both converted to double.");
        SeedBattle game = with("0s17 1s18");
        game.turn();
        check.same("two of now", game.meanAge(), 0.0);
        game.turn();
        check.same("as many of a turn ago", game.meanAge(), 0.5);
        game.save();
        for (int turn = 3; turn <= 99; turn++) {
            game.turn();
        }
        check.same("sixty each", game.meanAge(), 29.5);
        game.load(0);
        check.same("two old ones", game.meanAge(), (97.0 + 98.0 + 60 * 29.5) / 62.0);
        game.load(1);
        check.same("of all indexes", game.meanAge(), 97.5);
        SeedBattle thirds = with("2a17 3s20 3t19");
        thirds.turn();
        thirds.save();
        thirds.turn();
        thirds.load(3);
        check.same("the number of sightings", thirds.sightings(2) + thirds.sightings(3), 3);
        check.same("a mean that ends nowhere", thirds.meanAge(), 2.0 / 3.0);
    }

    private void soundGames() {
        check.sentence("Promise 27", "Returns whether all of this holds.");
        SeedBattle game = with("0s17 1a18 2s19 3t20 0a25 1s26 2a27 3s28");
        check.same("ahead of the first turn", game.isSound(), true);
        game.setTreaty(0, 1, true);
        game.setTreaty(2, 1, true);
        for (int turn = 1; turn <= 30; turn++) {
            for (int unit = 0; unit < 8; unit++) {
                int ordered = unit;
                Check.answer(() -> game.order(ordered, (game.done() * 3 + ordered * 5) % 8));
            }
            game.turn();
            check.same("behind the turn " + turn, game.isSound(), true);
        }
        game.save();
        game.breakBlock(1, 0);
        check.same("with a broken block", game.isSound(), true);
        game.repair(1);
        check.same("with a block that was rebuilt", game.isSound(), true);
        while (game.done() < 99) {
            game.turn();
        }
        check.same("at the end", game.isSound(), true);
        SeedBattle seeded = new SeedBattle();
        seeded.turn();
        seeded.setSeed(5);
        seeded.save();
        check.same("without units", seeded.isSound(), true);
    }
}
