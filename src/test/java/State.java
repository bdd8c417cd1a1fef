/** All that the face tells of a game, as one text. */
final class State {
    private State() {
    }

    static String of(SeedBattle game) {
        StringBuilder text = new StringBuilder();
        text.append("done ").append(game.done()).append(" sum ").append(game.checksum());
        text.append(" sound ").append(game.isSound());
        text.append(" living ").append(Check.answer(game::livingShare));
        text.append(" mean ").append(Check.answer(game::meanAge)).append('\n');
        for (int cell = 0; cell < 64; cell++) {
            text.append(game.ground(cell)).append(game.unitOn(cell)).append(' ');
        }
        addUnits(game, text);
        for (int player = 0; player < 4; player++) {
            addIndex(game, player, text);
            addSave(game, player, text);
        }
        return text.toString();
    }

    /** The index of a player, each sighting as turn/cell/unit, apart by spaces. */
    static String index(SeedBattle game, int player) {
        StringBuilder text = new StringBuilder();
        for (int row = 0; row < game.sightings(player); row++) {
            text.append(row == 0 ? "" : " ").append(game.sighting(player, row, 't'));
            text.append('/').append(game.sighting(player, row, 'c'));
            text.append('/').append(game.sighting(player, row, 'u'));
        }
        return text.toString();
    }

    /** The first numbers of the save of a player, or what is thrown in their place, apart by spaces. */
    static String numbers(SeedBattle game, int player, int size) {
        StringBuilder text = new StringBuilder();
        for (int at = 0; at < size; at++) {
            int place = at;
            text.append(at == 0 ? "" : " ").append(Check.answer(() -> game.savedAt(player, place)));
        }
        return text.toString();
    }

    private static void addUnits(SeedBattle game, StringBuilder text) {
        for (int number = 0; number < 24; number++) {
            int unit = number;
            Object place = Check.answer(() -> game.cellOf(unit));
            if (place instanceof String) {
                return;
            }
            text.append("\nunit ").append(unit).append(" on ").append(place).append(" sees");
            for (int cell = 0; cell < 64; cell++) {
                if (game.sees(unit, cell)) {
                    text.append(' ').append(cell);
                }
            }
        }
    }

    private static void addIndex(SeedBattle game, int player, StringBuilder text) {
        text.append("\nplayer ").append(player).append(" sees ").append(game.seen(player));
        text.append(" index ").append(index(game, player));
        text.append("\nages");
        for (int at = 0; at < 64; at++) {
            int cell = at;
            text.append(' ').append(Check.answer(() -> game.age(player, cell)));
        }
        text.append("\nlast");
        for (int at = 0; at < 24; at++) {
            int unit = at;
            text.append(' ').append(Check.answer(() -> game.lastSeen(player, unit)));
        }
    }

    private static void addSave(SeedBattle game, int player, StringBuilder text) {
        Object blocks = Check.answer(() -> game.blocks(player));
        text.append("\nsave ").append(blocks).append(" allies ");
        text.append(Check.answer(() -> game.allies(player)));
        if (blocks instanceof String) {
            return;
        }
        text.append(' ').append(numbers(game, player, 60));
    }
}
