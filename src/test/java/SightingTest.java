/** Promises 12 to 16 and 26: setTreaty, sightings, sighting, age, lastSeen, meanAge. */
public final class SightingTest {
    private static final Check CHECK = new Check("SightingTest");

    public static void main(String[] args) {
        treaties();
        wrongTreaties();
        noneAheadOfATurn();
        whatIsSighted();
        treatiesShare();
        treatiesTellOwnSightsAlone();
        treatiesTellAllUnits();
        lostUnitsAreNotSighted();
        sixtyAtMost();
        sixtyWithWhatIsTold();
        agesAndPlaces();
        wrongCalls();
        meanAges();
        CHECK.end();
    }

    private static SeedBattle with(String units) {
        return Maps.with(Maps.plainGame(), units);
    }

    private static void treaties() {
        SeedBattle game = new SeedBattle();
        CHECK.same("none at first", game.setTreaty(0, 1, true), false);
        CHECK.same("there is one", game.setTreaty(0, 1, true), true);
        CHECK.same("it is mutual", game.setTreaty(1, 0, true), true);
        CHECK.same("the others have none", game.setTreaty(0, 2, false), false);
        CHECK.same("nor these", game.setTreaty(1, 2, false), false);
        CHECK.same("its end", game.setTreaty(1, 0, false), true);
        CHECK.same("it is ended", game.setTreaty(0, 1, false), false);
        CHECK.same("for both", game.setTreaty(1, 0, true), false);
        CHECK.same("made again", game.setTreaty(0, 1, false), true);
        for (int other = 1; other < 4; other++) {
            game.setTreaty(other, 0, true);
        }
        for (int other = 1; other < 4; other++) {
            CHECK.same("with several at once", game.setTreaty(0, other, true), true);
            CHECK.same("not between them", game.setTreaty(other, other % 3 + 1, false), false);
        }
        CHECK.same("one ends", game.setTreaty(0, 2, false), true);
        CHECK.same("the others stay", game.setTreaty(1, 0, true) && game.setTreaty(3, 0, true), true);
    }

    private static void wrongTreaties() {
        SeedBattle game = new SeedBattle();
        for (int player : new int[] {-1, 4, Integer.MIN_VALUE, Integer.MAX_VALUE}) {
            CHECK.noIndex("treaty of " + player, game, () -> game.setTreaty(player, 0, true));
            CHECK.noIndex("treaty with " + player, game, () -> game.setTreaty(0, player, true));
            CHECK.noIndex("the same, that is none", game, () -> game.setTreaty(player, player, true));
        }
        for (int at = 0; at < 4; at++) {
            int player = at;
            CHECK.noArgument("treaty with itself", game, () -> game.setTreaty(player, player, true));
            CHECK.noArgument("its end", game, () -> game.setTreaty(player, player, false));
        }
    }

    private static void noneAheadOfATurn() {
        SeedBattle game = with("0s17 1s18");
        game.setTreaty(0, 1, true);
        CHECK.same("sightings", game.sightings(0), 0);
        CHECK.noElement("age", game, () -> game.age(0, 18));
        CHECK.noElement("lastSeen", game, () -> game.lastSeen(0, 1));
    }

    private static void whatIsSighted() {
        SeedBattle game = with("0a17 1s20 2a19");
        game.turn();
        CHECK.same("the army at the left", State.index(game, 0), "1/19/2");
        CHECK.same("the scout at the right", State.index(game, 1), "1/17/0 1/19/2");
        CHECK.same("the army between", State.index(game, 2), "1/17/0 1/20/1");
        CHECK.same("nobody", State.index(game, 3), "");
        game.order(0, 4);
        game.turn();
        CHECK.same("again", State.index(game, 0), "1/19/2 2/19/2");
        CHECK.same("moved", State.index(game, 1), "1/17/0 1/19/2 2/25/0 2/19/2");
    }

    private static void treatiesShare() {
        SeedBattle game = with("0a17 1s20 2a19");
        game.setTreaty(2, 0, true);
        game.turn();
        CHECK.same("told, by rising units", State.index(game, 0), "1/20/1 1/19/2");
        CHECK.same("not told of itself, allies are sighted, too", State.index(game, 2), "1/17/0 1/20/1");
        CHECK.same("without a treaty", State.index(game, 1), "1/17/0 1/19/2");
        game.setTreaty(0, 2, false);
        game.turn();
        CHECK.same("not told of what was", State.index(game, 0), "1/20/1 1/19/2 2/19/2");
        game.setTreaty(0, 1, true);
        game.turn();
        CHECK.same("nothing new from the other", State.index(game, 0), "1/20/1 1/19/2 2/19/2 3/19/2");
        CHECK.same("the other has it all", game.sightings(1), 6);
    }

    private static void treatiesTellOwnSightsAlone() {
        SeedBattle game = with("0a25 1s18 2a17 3a20");
        game.setTreaty(1, 2, true);
        game.setTreaty(2, 0, true);
        game.turn();
        CHECK.same("who sees it", State.index(game, 1), "1/25/0 1/17/2 1/20/3");
        CHECK.same("who is told", State.index(game, 2), "1/25/0 1/18/1 1/20/3");
        CHECK.same("the ally of the told", State.index(game, 0), "1/18/1 1/17/2");
        CHECK.same("the sighted one", State.index(game, 3), "1/18/1");
    }

    private static void treatiesTellAllUnits() {
        SeedBattle game = with("3a20 3a28 0a17 1a25 2s18");
        game.setTreaty(0, 2, true);
        game.setTreaty(1, 2, true);
        game.turn();
        CHECK.same("the unit 0, too", State.index(game, 0), "1/20/0 1/28/1 1/25/3 1/18/4");
        CHECK.same("told both", State.index(game, 1), "1/20/0 1/28/1 1/17/2 1/18/4");
        game = with("1s18 0a17 3a20 2a25");
        game.setTreaty(3, 1, true);
        game.setTreaty(3, 0, true);
        game.turn();
        CHECK.same("told by the players 0 and 1", State.index(game, 3), "1/18/0 1/17/1 1/25/3");
        CHECK.same("told by the player 3", State.index(game, 0), "1/18/0 1/25/3");
    }

    private static void lostUnitsAreNotSighted() {
        SeedBattle game = with("0a17 1s18 2s26");
        game.order(0, 2);
        game.turn();
        CHECK.same("the winner", State.index(game, 0), "1/26/2");
        CHECK.same("the lost", State.index(game, 1), "");
        CHECK.same("who looked on", State.index(game, 2), "1/18/0");
        CHECK.noElement("lastSeen of the lost", game, () -> game.lastSeen(2, 1));
    }

    private static final String CROWD = "0s17 1t18 1t19 1t20 1t25 1t26 1t27 1t28";

    private static void sixtyAtMost() {
        SeedBattle game = with(CROWD);
        for (int turn = 1; turn <= 8; turn++) {
            game.turn();
            CHECK.same("sightings", game.sightings(0), 7 * turn);
            CHECK.same("sightings of the other", game.sightings(1), turn);
        }
        game.turn();
        CHECK.same("sixty", game.sightings(0), 60);
        CHECK.same("the lowest units of the earliest turn are gone",
            State.index(game, 0).substring(0, 34), "1/25/4 1/26/5 1/27/6 1/28/7 2/18/1");
        CHECK.same("the last", game.sighting(0, 59, 'u'), 7);
        game.turn();
        CHECK.same("still sixty", game.sightings(0), 60);
        CHECK.same("seven more are gone", State.index(game, 0).substring(0, 34), "2/25/4 2/26/5 2/27/6 2/28/7 3/18/1");
        for (int turn = 11; turn <= 99; turn++) {
            game.turn();
        }
        CHECK.same("at the end", game.sightings(0), 60);
        CHECK.same("the first at the end", State.index(game, 0).substring(0, 15), "91/25/4 91/26/5");
        CHECK.same("the other at the end", game.sightings(1), 60);
        CHECK.same("its first", game.sighting(1, 0, 't'), 40);
    }

    private static void sixtyWithWhatIsTold() {
        SeedBattle game = with("0s17 2s25 1t18 1t19 1t20 1t26 1t27 1t28");
        game.setTreaty(0, 2, true);
        for (int turn = 1; turn <= 10; turn++) {
            game.turn();
        }
        CHECK.same("sixty of seventy", game.sightings(0), 60);
        CHECK.same("the first", State.index(game, 0).substring(0, 6), "2/20/4");
        CHECK.same("the first of the ally", State.index(game, 2).substring(0, 6), "2/20/4");
        CHECK.same("isSound", game.isSound(), true);
    }

    private static void agesAndPlaces() {
        SeedBattle game = with("0s17 1s28 1t19");
        game.turn();
        CHECK.same("age of this turn", game.age(0, 28), 0);
        CHECK.same("lastSeen", game.lastSeen(0, 1), 28);
        game.order(1, 6);
        game.turn();
        CHECK.same("age of the cell left", game.age(0, 28), 1);
        CHECK.same("age of the new cell", game.age(0, 27), 0);
        CHECK.same("lastSeen there", game.lastSeen(0, 1), 27);
        CHECK.same("lastSeen of the tower", game.lastSeen(0, 2), 19);
        game.turn();
        CHECK.same("age of the latest", game.age(0, 27), 0);
        CHECK.same("age of the cell left", game.age(0, 28), 2);
        CHECK.noElement("age of a cell without", game, () -> game.age(0, 18));
        CHECK.noElement("age of its own unit's cell", game, () -> game.age(0, 17));
        CHECK.noElement("lastSeen of its own unit", game, () -> game.lastSeen(0, 0));
        CHECK.noElement("lastSeen by a player without", game, () -> game.lastSeen(2, 0));
    }

    private static void wrongCalls() {
        SeedBattle game = with("0s17 1s18");
        game.turn();
        for (int player : new int[] {-1, 4, Integer.MIN_VALUE, Integer.MAX_VALUE}) {
            CHECK.noIndex("sightings", game, () -> game.sightings(player));
            CHECK.noIndex("sighting", game, () -> game.sighting(player, 0, 't'));
            CHECK.noIndex("sighting of no thing", game, () -> game.sighting(player, 0, 'q'));
            CHECK.noIndex("age", game, () -> game.age(player, 0));
            CHECK.noIndex("lastSeen", game, () -> game.lastSeen(player, 0));
        }
        for (int wrong : new int[] {-1, 1, 60, 61, Integer.MIN_VALUE, Integer.MAX_VALUE}) {
            CHECK.noIndex("sighting at " + wrong, game, () -> game.sighting(0, wrong, 't'));
            CHECK.noIndex("the index before the thing", game, () -> game.sighting(0, wrong, 'q'));
        }
        for (char what : new char[] {'T', 'q', 0, (char) 255, (char) 65535}) {
            CHECK.noArgument("sighting of " + (int) what, game, () -> game.sighting(0, 0, what));
        }
        for (int cell : new int[] {-1, 64, Integer.MIN_VALUE, Integer.MAX_VALUE}) {
            CHECK.noIndex("age on " + cell, game, () -> game.age(0, cell));
        }
        for (int unit : new int[] {-1, 2, 24, Integer.MIN_VALUE, Integer.MAX_VALUE}) {
            CHECK.noIndex("lastSeen of " + unit, game, () -> game.lastSeen(0, unit));
        }
    }

    private static void meanAges() {
        SeedBattle game = with("0a17 1s20 2a19");
        CHECK.noNumber("meanAge of none", game, game::meanAge);
        game.turn();
        CHECK.same("of this turn", game.meanAge(), 0.0);
        game.turn();
        CHECK.same("of two turns", game.meanAge(), 0.5);
        game.save();
        game.order(0, 5);
        game.turn();
        double sum = 0;
        int number = 0;
        for (int player = 0; player < 4; player++) {
            for (int row = 0; row < game.sightings(player); row++) {
                sum += 3 - game.sighting(player, row, 't');
                number++;
            }
        }
        CHECK.same("of three turns", game.meanAge(), sum / number);
    }
}
