/** Edges of treaties and indexes: promises 12 to 16. */
final class SightingEdges {
    private final Check check;

    SightingEdges(Check check) {
        this.check = check;
    }

    void run() {
        atTheEndOfTheTurn();
        livingOfOthers();
        onCellsSeen();
        leastAndGreatestNumbers();
        oneForTurnAndUnit();
        sixtyAtMost();
        oneTooMany();
        manyTooMany();
        tellOwnSights();
        whatItDoesNotHave();
        notOfItself();
        fullIndexesTell();
        treatiesBefore();
        numbersOfSightings();
        thingsOfSightings();
        ages();
        lastPlaces();
    }

    private static SeedBattle with(String units) {
        return Maps.with(Maps.plainGame(), units);
    }

    private static void turns(SeedBattle game, int many) {
        for (int turn = 0; turn < many; turn++) {
            game.turn();
        }
    }

    private void index(String what, SeedBattle game, int player, String due) {
        check.same(what, State.index(game, player), due);
    }

    private void atTheEndOfTheTurn() {
        check.sentence("Sightings", "At the end of each turn, each player sights");
        SeedBattle game = with("0a17 1s20 2s25");
        index("ahead of the first turn", game, 0, "");
        game.order(1, 6);
        index("behind an order", game, 0, "");
        game.turn();
        index("where it is at the end", game, 0, "1/19/1 1/25/2");
        game.order(1, 2);
        game.turn();
        index("gone at the end", game, 0, "1/19/1 1/25/2 2/25/2");
        SeedBattle through = Maps.with(Maps.game("17=p 18=p 19=p 20=p 21=p 25=p 26=p 27=p 28=p"), "0a17 1s20");
        through.order(1, 6);
        through.order(1, 2);
        through.turn();
        index("not between the steps", through, 0, "");
    }

    private void livingOfOthers() {
        check.sentence("Sightings", "all living units of others, those with a treaty, too");
        SeedBattle game = with("0a17 0s25 1s18 2s26 3a20");
        game.setTreaty(0, 2, true);
        game.order(0, 2);
        game.turn();
        index("not the lost one, nor one's own", game, 0, "1/26/3 1/20/4");
        index("the lost one sees nobody", game, 1, "");
        index("one with a treaty is sighted by the other", game, 2, "1/18/0 1/25/1 1/20/4");
    }

    private void onCellsSeen() {
        check.sentence("Sightings", "on cells that a unit of its own sees, by rising units");
        SeedBattle game = with("1s20 1s19 0a17 0a26 2s28");
        game.turn();
        index("each by one of two", game, 0, "1/20/0 1/19/1 1/28/4");
        SeedBattle far = with("0a17 1s20");
        far.turn();
        index("just out of sight", far, 0, "");
        index("just in sight", far, 1, "1/17/0");
    }

    /** The unit 0 on the cell 0 and the unit 23 on the cell 63, sighted by others beside them. */
    private void leastAndGreatestNumbers() {
        check.sentence("Sightings", "A sighting has a turn, a cell and a unit");
        SeedBattle game = Corners.game();
        game.turn();
        index("the least and the greatest", game, 0, "1/0/0 1/63/23");
        check.same("age on the first cell", game.age(0, 0), 0);
        check.same("age on the last cell", game.age(0, 63), 0);
        check.same("the first unit", game.lastSeen(0, 0), 0);
        check.same("the last unit", game.lastSeen(0, 23), 63);
        turns(game, 98);
        check.same("the greatest turn", game.sighting(0, 59, 't'), 99);
        check.same("the greatest cell", game.sighting(0, 59, 'c'), 63);
        check.same("the greatest unit", game.sighting(0, 59, 'u'), 23);
    }

    private void oneForTurnAndUnit() {
        check.sentence("Sightings", "a player's index has at most one for a turn and a unit");
        SeedBattle game = with("0s17 0s25 0s26 1s18 2s27");
        game.setTreaty(0, 2, true);
        game.setTreaty(0, 3, true);
        game.turn();
        index("seen by three and told", game, 0, "1/18/3 1/27/4");
        SeedBattle told = with("0s17 3s25 1s18 1s20");
        told.setTreaty(2, 0, true);
        told.setTreaty(2, 3, true);
        told.turn();
        index("told by two", told, 2, "1/17/0 1/25/1 1/18/2 1/20/3");
    }

    private void sixtyAtMost() {
        check.sentence("Sightings", "and at most 60");
        SeedBattle game = with("0s17 1s18");
        turns(game, 60);
        check.same("just 60", game.sightings(0), 60);
        check.same("all are there", game.sighting(0, 0, 't'), 1);
        check.same("to the last", game.sighting(0, 59, 't'), 60);
        game.turn();
        check.same("no more than 60", game.sightings(0), 60);
        check.noIndex("the index 60", game, () -> game.sighting(0, 60, 't'));
        turns(game, 38);
        check.same("nor at the end", game.sightings(0), 60);
        check.same("the first at the end", game.sighting(0, 0, 't'), 40);
        check.same("the last at the end", game.sighting(0, 59, 't'), 99);
    }

    private void oneTooMany() {
        check.sentence("Sightings", "if there would be more, the one of the earliest turn is dropped");
        SeedBattle game = with("0s17 1s18");
        turns(game, 61);
        check.same("the first turn is gone", game.sighting(0, 0, 't'), 2);
        check.same("the new one is there", game.sighting(0, 59, 't'), 61);
        check.same("so for the other", game.sighting(1, 0, 't'), 2);
        SeedBattle loaded = with("0s17 1s18");
        turns(loaded, 59);
        loaded.save();
        turns(loaded, 5);
        loaded.load(0);
        check.same("of the 59 that were loaded", loaded.sightings(0), 59);
        loaded.turn();
        check.same("none, as there are 60", loaded.sighting(0, 0, 't'), 1);
        loaded.turn();
        check.same("the first", loaded.sighting(0, 0, 't'), 2);
        check.same("not those behind the gap", loaded.sighting(0, 57, 't'), 59);
        check.same("the new ones", loaded.sighting(0, 58, 't'), 65);
    }

    private void manyTooMany() {
        check.sentence("Sightings", "of several that of the lowest unit, perhaps the new one");
        SeedBattle seven = with("0s17 1t18 1t19 1t20 1t25 1t26 1t27 1t28");
        turns(seven, 9);
        check.same("three of seven", State.index(seven, 0).substring(0, 34), "1/25/4 1/26/5 1/27/6 1/28/7 2/18/1");
        SeedBattle game = Crowd.game();
        turns(game, 2);
        check.same("two turns with 23 each", game.sightings(0), 46);
        check.same("from the first", game.sighting(0, 0, 'u'), 1);
        game.turn();
        check.same("sixty", game.sightings(0), 60);
        check.same("nine of the first turn are gone", game.sighting(0, 0, 't'), 1);
        check.same("the lowest ones", game.sighting(0, 0, 'u'), 10);
        check.same("the new ones are there, from the lowest", game.sighting(0, 37, 'u'), 1);
        check.same("to the highest", game.sighting(0, 59, 'u'), 23);
        game.turn();
        check.same("the first turn is gone, and nine of the second", game.sighting(0, 0, 't'), 2);
        check.same("these, too, from the lowest", game.sighting(0, 0, 'u'), 10);
    }

    private void tellOwnSights() {
        check.sentence("Sightings", "players with a treaty tell each other what they sighted in this turn by themselves");
        SeedBattle game = with("0a25 1s18 2a17 3a20");
        game.setTreaty(1, 2, true);
        game.setTreaty(2, 0, true);
        game.turn();
        index("told by one who sees", game, 2, "1/25/0 1/18/1 1/20/3");
        index("not told on what was told", game, 0, "1/18/1 1/17/2");
        index("nobody without a treaty is told", game, 3, "1/18/1");
        game.setTreaty(0, 1, true);
        game.turn();
        index("of this turn, not of those before", game, 0, "1/18/1 1/17/2 2/18/1 2/17/2 2/20/3");
    }

    private void whatItDoesNotHave() {
        check.sentence("Sightings", "for each player what it does not have, by rising players that tell, then units");
        SeedBattle game = with("1s20 0a17 3a28 2s25 1s26 3a18");
        game.setTreaty(0, 2, true);
        game.setTreaty(0, 3, true);
        game.turn();
        index("its own sights and those of two", game, 0, "1/20/0 1/28/2 1/25/3 1/26/4 1/18/5");
        index("told the same", game, 2, "1/20/0 1/17/1 1/28/2 1/26/4 1/18/5");
        index("told, too", game, 3, "1/20/0 1/17/1 1/25/3 1/26/4");
    }

    private void notOfItself() {
        check.sentence("Sightings", "not a sighting of a unit of the one that is told");
        SeedBattle game = with("0s17 0s18 1s25 1s26 2s27");
        game.setTreaty(0, 1, true);
        game.turn();
        index("the first", game, 0, "1/25/2 1/26/3 1/27/4");
        index("the other", game, 1, "1/17/0 1/18/1 1/27/4");
        check.same("isSound", game.isSound(), true);
    }

    /** The player 3 has no units, and so all in its index was told. */
    private void fullIndexesTell() {
        check.sentence("Sightings", "also what was dropped from their own index");
        SeedBattle game = with("0s17 1t18 1t19 1t20 1t25 1t26 1t27 1t28");
        turns(game, 20);
        game.setTreaty(0, 3, true);
        game.turn();
        index("a full index tells all of the turn", game, 3,
            "21/18/1 21/19/2 21/20/3 21/25/4 21/26/5 21/27/6 21/28/7");
        check.same("it was full", game.sightings(0), 60);
        game.setTreaty(1, 3, true);
        turns(game, 8);
        check.same("a full index is told", game.sightings(3), 60);
        check.same("what is too much is dropped there", game.sighting(3, 0, 't'), 22);
        check.same("from the lowest unit", game.sighting(3, 0, 'u'), 4);
        game.turn();
        check.same("and again", game.sighting(3, 0, 't'), 23);
    }

    private void treatiesBefore() {
        check.sentence("Promise 12", "Returns whether there was one.");
        SeedBattle game = new SeedBattle();
        for (int player = 0; player < 4; player++) {
            for (int other = 0; other < 4; other++) {
                if (player != other) {
                    check.same("at first", game.setTreaty(player, other, false), false);
                    check.same("no end of none", game.setTreaty(player, other, true), false);
                    check.same("made from the other side", game.setTreaty(other, player, true), true);
                    check.same("made twice is made once", game.setTreaty(player, other, false), true);
                    check.same("ended", game.setTreaty(other, player, false), false);
                }
            }
        }
        game.setTreaty(0, 3, true);
        check.same("of these two alone", game.setTreaty(0, 2, false) || game.setTreaty(3, 1, false)
            || game.setTreaty(1, 2, false), false);
    }

    private void numbersOfSightings() {
        check.sentence("Promise 13", "Returns the number of sightings.");
        SeedBattle game = with("0s17 1s18 1s19");
        for (int player = 0; player < 4; player++) {
            check.same("at first", game.sightings(player), 0);
        }
        turns(game, 29);
        check.same("of 29 turns", game.sightings(0), 58);
        turns(game, 1);
        check.same("of 30 turns", game.sightings(0), 60);
        turns(game, 1);
        check.same("of 31 turns", game.sightings(0), 60);
        check.same("of the other", game.sightings(1), 31);
        check.same("of one without units", game.sightings(3), 0);
    }

    private void thingsOfSightings() {
        check.sentence("Promise 14", "Returns the number.");
        SeedBattle game = with("2s17 3s20");
        turns(game, 2);
        check.same("the turn of the first", game.sighting(3, 0, 't'), 1);
        check.same("its cell", game.sighting(3, 0, 'c'), 17);
        check.same("its unit", game.sighting(3, 0, 'u'), 0);
        check.same("the turn of the last", game.sighting(3, 1, 't'), 2);
        check.same("the cell of the other's", game.sighting(2, 1, 'c'), 20);
        check.same("its unit", game.sighting(2, 1, 'u'), 1);
    }

    private void ages() {
        check.sentence("Promise 15", "Returns how many turns were done behind that of the sighting.");
        SeedBattle game = Maps.with(Maps.game("17=p 18=p 19=l 20=l 21=l"), "0a17 1s19");
        game.turn();
        check.same("none", game.age(0, 19), 0);
        game.order(1, 2);
        game.order(1, 2);
        game.turn();
        check.same("one", game.age(0, 19), 1);
        turns(game, 97);
        check.same("98, at most", game.age(0, 19), 98);
        check.noElement("on the cell where it is", game, () -> game.age(0, 21));
        SeedBattle two = with("0s17 1s20 1s28");
        two.turn();
        two.order(1, 6);
        two.order(2, 0);
        two.turn();
        check.same("the latest of two units on a cell", two.age(0, 20), 0);
        check.same("the cell that was left", two.age(0, 28), 1);
        two.order(2, 4);
        two.turn();
        check.same("the later one left, too", two.age(0, 20), 1);
        check.same("who came back", two.age(0, 28), 0);
    }

    private void lastPlaces() {
        check.sentence("Promise 16", "Returns the cell.");
        SeedBattle game = Maps.with(Maps.game("0=p 1=p 2=p 3=l 4=l 5=l"), "0a1 1s3");
        game.turn();
        check.same("where it was", game.lastSeen(0, 1), 3);
        game.order(1, 2);
        game.order(1, 2);
        game.turn();
        check.same("where it is not any more", game.lastSeen(0, 1), 3);
        game.order(1, 6);
        game.order(1, 6);
        game.turn();
        game.order(0, 6);
        game.order(1, 6);
        game.turn();
        check.same("the latest of several", game.lastSeen(0, 1), 2);
        check.same("the first cell", game.lastSeen(1, 0), 0);
    }
}
