/** Promises 1 to 11: a new object, and the calls that build. */
public final class BuildingTest extends Sentences {

    /** Done on CHEST 0 and not refused: what is kept of CHEST 0 alone is let go, a SEARCH of it alone is OVER. */
    private static void letsGo(int promise, Call call) {
        sentence(promise, "building: lets go what is kept for back() of the CHEST that it changes", () -> {
            PuzzleChests x = twoBars();
            x.copy(0, 1);
            x.copy(0, 2);
            for (int chest = 0; chest < 3; chest++) {
                x.move(chest, 1);
                x.move(chest, 1);
            }
            due(1, call.on(x) >= 0 ? 1 : 0);
            due(0, x.status());
            due(0, x.count(6));
            due(2, x.count(7));
            due(2, x.count(8));
            due(STATE, x.back(0));
        });
    }

    private static void endsSearch(int promise, Call call) {
        sentence(promise, "terms 4: a SEARCH of its CHEST is OVER, also if all is as it was", () -> {
            PuzzleChests x = twoBars();
            x.copy(0, 1);
            x.search(0, 1000);
            due(0, x.searched(5));
            call.on(x);
            due(1, x.searched(5));
            due(9, x.searched(0));
            due(STATE, x.goOn(1));
        });
        sentence(promise, "terms 4: a SEARCH of another CHEST is not OVER", () -> {
            PuzzleChests x = twoBars();
            x.copy(0, 1);
            x.search(1, 1000);
            call.on(x);
            due(0, x.searched(5));
            due(4, x.shortest());
        });
    }

    private static void newObject() {
        sentence(1, "three CHESTS", () -> {
            for (int chest = 0; chest < 3; chest++) {
                due(0, house().state(chest));
            }
            due(UNKNOWN, house().state(3));
            due(UNKNOWN, house().state(-1));
        });
        sentence(1, "all of whose ROWS are NOTHING", () -> {
            PuzzleChests x = house();
            for (int chest = 0; chest < 3; chest++) {
                for (int seat = 0; seat < 16; seat++) {
                    due(NOTHING, x.part(chest, seat, BAR, 1, 0));
                }
                x.export(chest);
                for (int row = 0; row < 4; row++) {
                    due(255, x.out(row));
                }
            }
        });
        sentence(1, "no SEARCH", () -> {
            PuzzleChests x = house();
            due(NONE, x.searched(0));
            due(NONE, x.ordered(0));
            due(NONE, x.layer(0));
            due(STATE, x.goOn(1));
            due(STATE, x.markAll());
        });
        sentence(1, "terms 6: no JAM and no SEAT that STICKS, at first", () -> {
            PuzzleChests x = house();
            for (int chest = 0; chest < 3; chest++) {
                due(8, x.export(chest));
                due(0, x.out(5));
                due(0, x.out(6));
                due(0, x.jam(chest, 1, 1));
            }
        });
        sentence(1, "nothing is counted, and no refusal told, before any call", () -> {
            PuzzleChests x = house();
            due(0, x.status());
            for (int what = 0; what < 14; what++) {
                due(0, x.count(what));
            }
        });
        sentence(1, "each object has a house of its own", () -> {
            PuzzleChests x = house();
            PuzzleChests y = busy();
            due(0, x.count(0));
            due(0, x.count(9));
            due(0, x.count(13));
            due(NONE, x.searched(0));
            due(NONE, x.out(0));
            due(5, y.count(0));
        });
    }

    private static void rows() {
        sentence(2, "a new one of n PLACES, empty", () -> {
            for (int n = 0; n <= 4; n++) {
                for (int row = 0; row < 4; row++) {
                    PuzzleChests x = house();
                    due(1, x.row(2, row, n));
                    for (int place = 0; place < 4; place++) {
                        due(place < n ? NOTHING : BEYOND, x.told(2, 4 * row + place, 0));
                        due(place < n ? place + 1 : BEYOND, x.part(2, 4 * row + place, BLANK, 1, 0));
                    }
                }
            }
        });
        sentence(2, "n = -1: NOTHING", () -> {
            PuzzleChests x = house();
            x.row(0, 1, 4);
            due(1, x.row(0, 1, -1));
            due(NOTHING, x.part(0, 4, BAR, 1, 0));
            x.export(0);
            due(255, x.out(1));
            due(1, x.row(0, 0, -1));
        });
        sentence(2, "PARTS that stood in it are gone, those of other ROWS stay", () -> {
            for (int n = -1; n <= 4; n++) {
                PuzzleChests x = largest();
                x.ofNumber(0, 1023);
                due(1, x.row(0, 0, n));
                due(1, x.count(0));
                due(4, x.product(0));
                due(3, x.told(0, 4, 2));
                due(n < 1 ? (n < 0 ? NOTHING : BEYOND) : NOTHING, x.told(0, 0, 0));
            }
        });
        sentence(2, "the CONDITIONS of the CHEST stay", () -> {
            PuzzleChests x = twoBars();
            x.row(0, 0, -1);
            due(2, x.count(3));
            due(1, x.conditionTold(0, 1, 5));
        });
        noSuchChest(2, chest -> x -> x.row(chest, 4, 5));
        refused(2, "UNKNOWN: ROW", UNKNOWN, x -> x.row(0, -1, 1), x -> x.row(0, 4, 1), x -> x.row(0, LOW, 5),
            x -> x.row(0, HIGH, -2));
        refused(2, "OUTSIDE: n above 4", OUTSIDE, x -> x.row(0, 0, 5), x -> x.row(0, 3, HIGH));
        finds(2, "SIZE: n below -1", SIZE, x -> x.row(0, 0, -2), x -> x.row(0, 3, LOW));
        letsGo(2, x -> x.row(0, 3, -1));
        endsSearch(2, x -> x.row(0, 3, -1));
    }

    private static void parts() {
        sentence(3, "how many PARTS the CHEST has", () -> {
            PuzzleChests x = house();
            for (int row = 0; row < 4; row++) {
                x.row(0, row, 4);
            }
            for (int seat = 0; seat < 16; seat++) {
                due(seat + 1, x.part(0, seat, BAR, 1, 0));
            }
            due(16, x.part(0, 7, PIN, 6, 5));
        });
        sentence(3, "AT 0, in place of what was there", () -> {
            PuzzleChests x = with(BAR, 4, 0);
            x.place(0, 0, 3);
            due(1, x.part(0, 0, LATCH, 5, 4));
            due(LATCH, x.told(0, 0, 0));
            due(5, x.told(0, 0, 1));
            due(0, x.told(0, 0, 2));
            due(4, x.told(0, 0, 3));
        });
        sentence(3, "each SEAT, KIND, SPAN and SIDE that is told", () -> {
            PuzzleChests x = house();
            x.row(1, 3, 4);
            x.row(1, 0, 1);
            due(1, x.part(1, 0, BAR, 1, 0));
            due(2, x.part(1, 15, BAR, 6, 5));
            for (int kind = 0; kind < 5; kind++) {
                due(2, x.part(1, 15, kind, 6, 5));
                due(kind, x.told(1, 15, 0));
            }
            due(2, x.part(1, 15, BLANK, 1, 5));
            due(BLANK, x.told(1, 15, 0));
        });
        sentence(3, "terms 1: a SEAT is 4 times its ROW and its PLACE", () -> {
            for (int seat = 0; seat < 16; seat++) {
                PuzzleChests x = house();
                x.row(0, seat / 4, seat % 4);
                due(BEYOND, x.part(0, seat, BAR, 1, 0));
                x.row(0, seat / 4, seat % 4 + 1);
                due(1, x.part(0, seat, BAR, 1, 0));
            }
        });
        noSuchChest(3, chest -> x -> x.part(chest, 16, 6, 7, 6));
        refused(3, "OUTSIDE: seat", OUTSIDE, x -> x.part(0, -1, BAR, 1, 0), x -> x.part(0, 16, BAR, 1, 0),
            x -> x.part(0, LOW, BAR, 1, 0), x -> x.part(0, HIGH, BAR, 1, 0));
        refused(3, "OUTSIDE: kind", OUTSIDE, x -> x.part(0, 0, -1, 1, 0), x -> x.part(0, 0, 6, 1, 0),
            x -> x.part(0, 15, 6, 1, 0));
        refused(3, "OUTSIDE: span", OUTSIDE, x -> x.part(0, 0, BAR, 0, 0), x -> x.part(0, 0, BAR, 7, 0),
            x -> x.part(0, 0, LATCH, LOW, 0), x -> x.part(0, 15, RING, HIGH, 0));
        refused(3, "OUTSIDE: side", OUTSIDE, x -> x.part(0, 0, BAR, 1, -1), x -> x.part(0, 0, PIN, 1, 6),
            x -> x.part(0, 15, BLANK, 1, 6));
        refused(3, "OUTSIDE: a BLANK's span is not 1", OUTSIDE, x -> x.part(0, 0, BLANK, 2, 0),
            x -> x.part(0, 0, BLANK, 0, 0), x -> x.part(0, 15, BLANK, 6, 0));
        finds(3, "NOTHING: the ROW", NOTHING, x -> x.part(0, 12, BAR, 1, 0), x -> x.part(0, 15, BAR, 6, 0));
        finds(3, "BEYOND: the PLACE", BEYOND, x -> x.part(0, 6, BAR, 1, 0), x -> x.part(0, 7, BAR, 1, 0),
            x -> x.part(0, 8, BAR, 6, 0));
        sentence(3, "THE PRODUCT is at most 1024: 1024 is fine", () -> due(1024, largest().product(0)));
        refusedIn(Sentences::largest, 3, "FULL: THE PRODUCT would be above 1024", FULL, x -> x.part(0, 5, BAR, 2, 0),
            x -> x.part(0, 4, BAR, 5, 0), x -> x.part(0, 0, PIN, 6, 0));
        sentence(3, "FULL: the PART that stands there does not count", () -> {
            PuzzleChests x = largest();
            due(5, x.part(0, 4, BAR, 4, 0));
            due(6, x.part(0, 5, BAR, 1, 0));
            due(6, x.part(0, 4, BAR, 2, 0));
            due(6, x.part(0, 5, BAR, 2, 0));
            due(FULL, x.part(0, 5, BAR, 3, 0));
            due(1024, x.product(0));
        });
        sentence(3, "FULL: PARTS of all SEATS count, the first and the last, too", () -> {
            PuzzleChests x = house();
            x.row(0, 0, 4);
            x.row(0, 3, 4);
            x.part(0, 0, BAR, 6, 0);
            x.part(0, 15, BAR, 6, 0);
            x.part(0, 12, BAR, 6, 0);
            due(FULL, x.part(0, 3, BAR, 5, 0));
            due(4, x.part(0, 3, BAR, 4, 0));
            due(FULL, x.part(0, 13, BAR, 2, 0));
            due(864, x.product(0));
        });
        findsIn(Sentences::largest, 3, "FINDINGS come ahead of FULL", BEYOND, x -> x.part(0, 6, BAR, 6, 0));
        findsIn(Sentences::largest, 3, "FINDINGS come ahead of FULL: NOTHING", NOTHING, x -> x.part(0, 8, BAR, 6, 0));
        letsGo(3, x -> x.part(0, 1, BAR, 3, 0));
        endsSearch(3, x -> x.part(0, 1, BAR, 3, 0));
    }

    private static void takes() {
        sentence(4, "a SEAT is empty: how many PARTS are left", () -> {
            PuzzleChests x = handled();
            x.ofNumber(0, 35);
            due(3, x.take(0, 1));
            due(NOTHING, x.told(0, 1, 0));
            due(3, x.told(0, 0, 2));
            due(2, x.told(0, 2, 2));
            due(12, x.product(0));
            due(2, x.take(0, 3));
            due(1, x.take(0, 0));
            due(0, x.take(0, 2));
            due(1, x.product(0));
        });
        sentence(4, "its PLACE stays, and a PART may stand there again", () -> {
            PuzzleChests x = with(BAR, 4, 0);
            x.place(0, 0, 2);
            x.take(0, 0);
            due(1, x.part(0, 0, BAR, 4, 0));
            due(0, x.told(0, 0, 2));
        });
        noSuchChest(4, chest -> x -> x.take(chest, 16));
        refused(4, "OUTSIDE", OUTSIDE, x -> x.take(0, -1), x -> x.take(0, 16), x -> x.take(0, LOW), x -> x.take(0, HIGH));
        finds(4, "as one COMES to it: NOTHING, its ROW is NOTHING", NOTHING, x -> x.take(0, 12), x -> x.take(0, 15));
        finds(4, "as one COMES to it: BEYOND", BEYOND, x -> x.take(0, 6), x -> x.take(0, 8));
        finds(4, "as one COMES to it: NOTHING, no PART is there", NOTHING, x -> x.take(0, 5));
        letsGo(4, x -> x.take(0, 0));
        endsSearch(4, x -> x.take(0, 0));
    }

    private static void conditions() {
        sentence(5, "its number: from 0 on as they come, of each CHEST by itself, 40 at most", () -> {
            PuzzleChests x = house();
            for (int i = 0; i < 40; i++) {
                due(i, x.condition(0, i % 17 - 1, i % 16, i % 8 - 1));
            }
            due(FULL, x.condition(0, 0, 0, 0));
            due(0, x.condition(1, 0, 0, 0));
            due(40, x.count(3));
            due(-1, x.conditionTold(0, 17, 0));
            due(15, x.conditionTold(0, 33, 0));
            due(15, x.conditionTold(0, 31, 1));
        });
        sentence(5, "n TRUTHS, all 0", () -> {
            PuzzleChests x = house();
            for (int n = 0; n <= 6; n++) {
                x.condition(0, 15, 15, n);
                due(n, x.conditionTold(0, n, 2));
                for (int i = 0; i < 6; i++) {
                    due(i < n ? 0 : NONE, x.conditionTold(0, n, 3 + i));
                }
            }
        });
        sentence(5, "n TRUTHS, all 0, where one of the same number had others before", () -> {
            PuzzleChests x = house();
            x.condition(0, 0, 0, 6);
            truths(x, 0, 1, 1, 1, 1, 1, 1);
            x.clear(0);
            due(0, x.condition(0, 3, 2, 6));
            for (int i = 0; i < 6; i++) {
                due(0, x.conditionTold(0, 0, 3 + i));
            }
        });
        sentence(5, "n TRUTHS, all 0, in a SEARCH, too, where one of the same number had others before", () -> {
            PuzzleChests x = twoBars();
            x.clear(0);
            x.row(0, 0, 1);
            x.part(0, 0, BAR, 3, 0);
            x.condition(0, -1, 0, 3);
            x.search(0, 1000);
            due(3, x.searched(0));
            due(NONE, x.shortest());
        });
        sentence(5, "of each SEAT, from 0 to 15, and LOOKING at each", () -> {
            for (int seat = 0; seat < 16; seat++) {
                PuzzleChests x = house();
                x.row(0, seat / 4, 4);
                x.part(0, seat, RING, 2, 0);
                x.condition(0, seat, seat, 2);
                due(0, x.barredBy(0, 2 * seat));
                due(0, x.barredBy(0, 2 * seat + 1));
                x.search(0, 9);
                due(1, x.searched(0));
                x.truth(0, 0, 1, true);
                due(NONE, x.barredBy(0, 2 * seat));
                x.search(0, 9);
                due(2, x.searched(0));
            }
        });
        sentence(5, "n = -1: NOTHING", () -> {
            PuzzleChests x = house();
            due(0, x.condition(0, 0, 0, -1));
            due(NONE, x.conditionTold(0, 0, 2));
            due(NOTHING, x.truth(0, 0, 0, true));
        });
        sentence(5, "-1: of OPEN", () -> {
            PuzzleChests x = with(BAR, 2, 0);
            x.condition(0, -1, 0, 1);
            x.truth(0, 0, 0, true);
            due(1, x.isOpen(0));
            due(-1, x.conditionTold(0, 0, 0));
        });
        sentence(5, "SEATS without a PART will do", () -> {
            PuzzleChests x = house();
            due(0, x.condition(0, 15, 15, 6));
            due(15, x.conditionTold(0, 0, 0));
            due(15, x.conditionTold(0, 0, 1));
        });
        noSuchChest(5, chest -> x -> x.condition(chest, 16, 16, 7));
        refused(5, "OUTSIDE: the SEAT", OUTSIDE, x -> x.condition(0, -2, 0, 0), x -> x.condition(0, 16, 0, 0),
            x -> x.condition(0, LOW, 0, -2), x -> x.condition(0, HIGH, 0, 0));
        refused(5, "OUTSIDE: the SEAT that it LOOKS at", OUTSIDE, x -> x.condition(0, 0, -1, 0),
            x -> x.condition(0, 0, 16, 0), x -> x.condition(0, -1, LOW, -2), x -> x.condition(0, 0, HIGH, 0));
        refused(5, "OUTSIDE: n above 6", OUTSIDE, x -> x.condition(0, 0, 0, 7), x -> x.condition(0, 0, 0, HIGH));
        finds(5, "SIZE: n below -1", SIZE, x -> x.condition(0, 0, 0, -2), x -> x.condition(0, -1, 15, LOW));
        refusedIn(BuildingTest::allConditions, 5, "FULL", FULL, x -> x.condition(0, 0, 0, 0),
            x -> x.condition(0, -1, 0, -1));
        refusedIn(BuildingTest::allConditions, 5, "OUTSIDE comes ahead of FULL", OUTSIDE,
            x -> x.condition(0, 16, 0, 0), x -> x.condition(0, 0, 0, 7));
        findsIn(BuildingTest::allConditions, 5, "SIZE comes ahead of FULL", SIZE, x -> x.condition(0, 0, 0, -2));
        letsGo(5, x -> x.condition(0, 9, 9, 0));
        endsSearch(5, x -> x.condition(0, 9, 9, 0));
    }

    private static PuzzleChests allConditions() {
        PuzzleChests x = house();
        for (int i = 0; i < 40; i++) {
            x.condition(0, 0, 0, 6);
        }
        return x;
    }

    private static void setsTruths() {
        sentence(6, "TRUTH i is v, the others stay: what it was", () -> {
            PuzzleChests x = house();
            x.condition(0, 0, 0, 6);
            for (int i = 0; i < 6; i++) {
                due(0, x.truth(0, 0, i, true));
                due(1, x.truth(0, 0, i, true));
                for (int other = 0; other < 6; other++) {
                    due(other == i ? 1 : 0, x.conditionTold(0, 0, 3 + other));
                }
                due(1, x.truth(0, 0, i, false));
                due(0, x.truth(0, 0, i, false));
            }
        });
        sentence(6, "other CONDITIONS stay", () -> {
            PuzzleChests x = house();
            x.condition(0, 0, 0, 2);
            x.condition(0, 0, 0, 2);
            x.condition(1, 0, 0, 2);
            x.truth(0, 1, 1, true);
            due(0, x.conditionTold(0, 0, 4));
            due(0, x.conditionTold(1, 0, 4));
            due(1, x.conditionTold(0, 1, 4));
        });
        noSuchChest(6, chest -> x -> x.truth(chest, 0, 0, true));
        refused(6, "UNKNOWN: CONDITION", UNKNOWN, x -> x.truth(0, -1, 9, true), x -> x.truth(0, 7, 0, true),
            x -> x.truth(2, 0, 0, true), x -> x.truth(0, LOW, 0, true), x -> x.truth(0, HIGH, 0, true));
        finds(6, "NOTHING", NOTHING, x -> x.truth(0, 1, 0, true), x -> x.truth(0, 1, -1, true));
        finds(6, "BEYOND: at the end", BEYOND, x -> x.truth(0, 0, 3, true), x -> x.truth(0, 6, 0, true),
            x -> x.truth(0, 0, HIGH, true));
        finds(6, "BEYOND: below 0", BEYOND, x -> x.truth(0, 0, -1, true), x -> x.truth(0, 0, LOW, false));
        letsGo(6, x -> x.truth(0, 0, 2, true));
        endsSearch(6, x -> x.truth(0, 0, 2, true));
    }

    private static void truthsAre(PuzzleChests x, int condition, int... truths) {
        for (int i = 0; i < truths.length; i++) {
            due(truths[i], x.conditionTold(0, condition, 3 + i));
        }
    }

    /** CONDITION 0 has the TRUTHS 1 0 1 1 0 0, CONDITION 1 has 0 0 0, CONDITION 2 has NOTHING. */
    private static PuzzleChests threeRows() {
        PuzzleChests x = house();
        x.condition(0, 0, 0, 6);
        x.condition(0, 0, 0, 3);
        x.condition(0, 0, 0, -1);
        truths(x, 0, 1, 0, 1, 1, 0, 0);
        return x;
    }

    private static void copiesTruths() {
        sentence(7, "TRUTHS i, i + 1, .. are those of another one from j on: n", () -> {
            PuzzleChests x = threeRows();
            due(2, x.copyTruths(0, 1, 1, 0, 2, 2));
            truthsAre(x, 1, 0, 1, 1, NONE);
            truthsAre(x, 0, 1, 0, 1, 1, 0, 0);
            due(3, x.copyTruths(0, 1, 0, 0, 3, 3));
            truthsAre(x, 1, 1, 0, 0);
            due(1, x.copyTruths(0, 0, 5, 1, 0, 1));
            truthsAre(x, 0, 1, 0, 1, 1, 0, 1);
        });
        sentence(7, "as these were ahead (of itself, too)", () -> {
            PuzzleChests x = threeRows();
            due(5, x.copyTruths(0, 0, 1, 0, 0, 5));
            truthsAre(x, 0, 1, 1, 0, 1, 1, 0);
            due(4, x.copyTruths(0, 0, 0, 0, 2, 4));
            truthsAre(x, 0, 0, 1, 1, 0, 1, 0);
            due(6, x.copyTruths(0, 0, 0, 0, 0, 6));
            truthsAre(x, 0, 0, 1, 1, 0, 1, 0);
        });
        sentence(7, "n = 0, also at the very end of both", () -> {
            PuzzleChests x = threeRows();
            due(0, x.copyTruths(0, 1, 3, 0, 6, 0));
            due(0, x.status());
            due(0, x.copyTruths(0, 0, 0, 1, 0, 0));
            truthsAre(x, 0, 1, 0, 1, 1, 0, 0);
            truthsAre(x, 1, 0, 0, 0);
        });
        noSuchChest(7, chest -> x -> x.copyTruths(chest, 0, 0, 0, 0, 0));
        refused(7, "UNKNOWN: CONDITION", UNKNOWN, x -> x.copyTruths(0, 7, 0, 0, 0, 0), x -> x.copyTruths(0, -1, 0, 1, 0, -1),
            x -> x.copyTruths(0, 0, 0, 7, 0, 0), x -> x.copyTruths(0, 1, 9, -1, 0, 9), x -> x.copyTruths(2, 0, 0, 0, 0, 0));
        findsIn(BuildingTest::threeRows, 7, "NOTHING: one of both has none", NOTHING, x -> x.copyTruths(0, 2, 0, 0, 0, 1),
            x -> x.copyTruths(0, 0, 0, 2, 0, 1), x -> x.copyTruths(0, 2, 0, 2, 0, 0), x -> x.copyTruths(0, 0, -1, 2, -1, -1));
        findsIn(BuildingTest::threeRows, 7, "BEYOND: i is below 0", BEYOND, x -> x.copyTruths(0, 0, -1, 1, 0, 1),
            x -> x.copyTruths(0, 0, -1, 1, 0, 0), x -> x.copyTruths(0, 0, LOW, 1, 0, 1));
        findsIn(BuildingTest::threeRows, 7, "BEYOND: j is below 0", BEYOND, x -> x.copyTruths(0, 0, 0, 1, -1, 1),
            x -> x.copyTruths(0, 0, 0, 1, -1, 0), x -> x.copyTruths(0, 0, 0, 1, LOW, 1));
        findsIn(BuildingTest::threeRows, 7, "BEYOND: n is below 0", BEYOND, x -> x.copyTruths(0, 0, 0, 1, 0, -1),
            x -> x.copyTruths(0, 0, 2, 1, 2, -1), x -> x.copyTruths(0, 0, 0, 1, 0, LOW));
        findsIn(BuildingTest::threeRows, 7, "BEYOND: there are not so many to be set", BEYOND,
            x -> x.copyTruths(0, 1, 0, 0, 0, 4), x -> x.copyTruths(0, 1, 1, 0, 0, 3), x -> x.copyTruths(0, 1, 4, 0, 0, 0),
            x -> x.copyTruths(0, 1, HIGH, 0, 0, 1), x -> x.copyTruths(0, 1, 1, 0, 0, HIGH));
        findsIn(BuildingTest::threeRows, 7, "BEYOND: there are not so many to be had", BEYOND,
            x -> x.copyTruths(0, 0, 0, 1, 0, 4), x -> x.copyTruths(0, 0, 0, 1, 2, 2), x -> x.copyTruths(0, 0, 0, 1, 4, 0),
            x -> x.copyTruths(0, 0, 0, 1, HIGH, 1), x -> x.copyTruths(0, 0, 0, 1, HIGH, HIGH));
        letsGo(7, x -> x.copyTruths(0, 0, 0, 1, 0, 0));
        endsSearch(7, x -> x.copyTruths(0, 0, 0, 1, 0, 0));
    }

    private static void jams() {
        sentence(8, "the JAM from before, of each CHEST by itself", () -> {
            PuzzleChests x = house();
            due(0, x.jam(0, 99, -1));
            due(99, x.jam(0, 1, 15));
            due(1, x.jam(0, 0, 0));
            due(0, x.jam(0, 7, 0));
            due(0, x.jam(1, 0, -1));
            due(0, x.jam(2, 50, 3));
            due(7, x.jam(0, 0, 0));
        });
        sentence(8, "and the SEAT that STICKS", () -> {
            PuzzleChests x = handled();
            for (int seat = -1; seat < 16; seat++) {
                x.jam(0, 3, seat);
                x.export(0);
                due(seat == 0 ? JAM : 1, x.move(0, 1));
                x.place(0, 0, 0);
                due(seat + 1, x.out(x.export(0) - 2));
            }
        });
        noSuchChest(8, chest -> x -> x.jam(chest, 100, 16));
        refused(8, "OUTSIDE: jam 0 .. 99", OUTSIDE, x -> x.jam(0, -1, 0), x -> x.jam(0, 100, 0), x -> x.jam(0, LOW, -1),
            x -> x.jam(0, HIGH, 15));
        refused(8, "OUTSIDE: seat -1 .. 15", OUTSIDE, x -> x.jam(0, 0, -2), x -> x.jam(0, 0, 16), x -> x.jam(0, 99, LOW),
            x -> x.jam(0, 1, HIGH));
        sentence(8, "building: jam() lets nothing go that is kept for back()", () -> {
            PuzzleChests x = twoBars();
            x.move(0, 1);
            x.jam(0, 5, 5);
            due(1, x.count(6));
            due(0, x.back(0));
        });
        sentence(8, "terms 4: jam() leaves the SEARCH as it is", () -> {
            PuzzleChests x = twoBars();
            x.search(0, 1);
            x.jam(0, 5, 0);
            due(0, x.searched(5));
            due(1, x.goOn(1000));
            due(4, x.shortest());
        });
    }

    private static void clears() {
        sentence(9, "a CHEST is as at first (JAM and the SEAT that STICKS, too)", () -> {
            PuzzleChests x = busy();
            due(5, x.clear(0));
            due(house().digest(0), x.digest(0));
            due(0, x.count(0));
            due(0, x.count(3));
            due(1, x.product(0));
            due(0, x.jam(0, 0, -1));
            due(0, x.isOpen(0));
        });
        sentence(9, "no CONDITION from before bars, opens or is asked", () -> {
            PuzzleChests x = busy();
            x.clear(0);
            int findings = x.count(11);
            due(0, x.isOpen(0));
            x.row(0, 0, 2);
            x.part(0, 1, RING, 4, 0);
            due(1, x.may(0, 2));
            traced(x, 12);
            due(0, x.isOpen(0));
            traced(x);
            due(findings, x.count(11));
        });
        sentence(9, "how many PARTS it had: 0 of one that has none", () -> {
            PuzzleChests x = house();
            due(0, x.clear(2));
            due(0, x.status());
        });
        sentence(9, "the other CHESTS stay", () -> {
            PuzzleChests x = busy();
            long one = x.digest(1), two = x.digest(2);
            x.clear(0);
            due(one, x.digest(1));
            due(two, x.digest(2));
        });
        noSuchChest(9, chest -> x -> x.clear(chest));
        letsGo(9, x -> x.clear(0));
        endsSearch(9, x -> x.clear(0));
        sentence(9, "also if all is as it was: a SEARCH of a CHEST without anything is OVER", () -> {
            PuzzleChests x = house();
            x.search(2, 1);
            x.clear(2);
            due(1, x.searched(5));
        });
    }

    private static void copies() {
        sentence(10, "CHEST b becomes as a is: how many PARTS", () -> {
            PuzzleChests x = busy();
            due(5, x.copy(0, 2));
            due(x.digest(0), x.digest(2));
            due(1, x.alike(0, 2));
            due(1, x.told(2, 0, 2));
            due(7, x.count(5));
            due(9, x.jam(2, 0, -1));
        });
        sentence(10, "CHEST b becomes as a is, where b had more", () -> {
            PuzzleChests x = busy();
            x.clear(2);
            due(0, x.copy(2, 0));
            due(1, x.alike(0, 2));
            due(1, x.product(0));
            due(0, x.count(3));
        });
        sentence(10, "CHEST b becomes as a is, with PARTS at all SEATS and all CONDITIONS there can be", () -> {
            PuzzleChests x = house();
            for (int row = 0; row < 4; row++) {
                x.row(0, row, 4);
            }
            for (int seat = 0; seat < 16; seat++) {
                x.part(0, seat, seat % 2 == 0 ? BAR : LATCH, seat % 5 == 0 ? 4 : 1, seat % 6);
                x.place(0, seat, seat % 5 == 0 ? 3 : 0);
            }
            for (int i = 0; i < 40; i++) {
                x.condition(0, 15 - i % 17, i % 16, i % 7);
                x.truth(0, i, i % 7 - 1, true);
            }
            due(16, x.copy(0, 1));
            due(1, x.alike(0, 1));
            due(x.product(0), x.product(1));
            due(255, x.state(1));
            due(LATCH, x.told(1, 15, 0));
            due(4, x.told(1, 15, 1));
            due(3, x.told(1, 15, 2));
            due(3, x.told(1, 15, 3));
            due(x.barredBy(0, 20), x.barredBy(1, 20));
        });
        sentence(10, "its own copies of all", () -> {
            PuzzleChests x = busy();
            x.copy(0, 2);
            long first = x.digest(0);
            x.place(2, 0, 2);
            x.truth(2, 0, 0, true);
            x.part(2, 5, BAR, 2, 0);
            x.condition(2, 3, 3, 3);
            x.jam(2, 77, 7);
            x.row(2, 3, 4);
            due(first, x.digest(0));
            due(0, x.alike(0, 2));
            x.copy(0, 2);
            x.truth(0, 0, 0, true);
            x.place(0, 0, 0);
            due(first, x.digest(2));
        });
        sentence(10, "of itself: all is as it was", () -> {
            PuzzleChests x = busy();
            long before = x.digest(0);
            due(5, x.copy(0, 0));
            due(before, x.digest(0));
        });
        sentence(10, "what is kept of a stays, and is not b's", () -> {
            PuzzleChests x = twoBars();
            x.move(0, 1);
            due(2, x.copy(0, 1));
            due(1, x.count(6));
            due(0, x.count(7));
            due(STATE, x.back(1));
            due(0, x.back(0));
        });
        noSuchChest(10, chest -> x -> x.copy(chest, 0));
        noSuchChest(10, chest -> x -> x.copy(0, chest));
        letsGo(10, x -> x.copy(1, 0));
        letsGo(10, x -> x.copy(0, 0));
        endsSearch(10, x -> x.copy(1, 0));
        endsSearch(10, x -> x.copy(0, 0));
        sentence(10, "terms 4: copy() (to it): a SEARCH of a is not OVER", () -> {
            PuzzleChests x = twoBars();
            x.search(0, 1000);
            x.copy(0, 1);
            due(0, x.searched(5));
        });
    }

    public static void main(String[] args) {
        newObject();
        rows();
        parts();
        takes();
        conditions();
        setsTruths();
        copiesTruths();
        jams();
        clears();
        copies();
        end();
    }
}
