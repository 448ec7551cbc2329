/** Promises 30 to 40: searches. The STATES of twoBars() from 0 on, by ORDER: 0, 1, 2, 5, 4, 8, 3, 7, 6. */
public final class SearchesTest extends Sentences {
    private static final int[] ORDERED = {0, 1, 2, 5, 4, 8, 3, 7, 6};
    private static final int[] LAYERS = {0, 1, 2, 3, 4, 4, 5, 5, 6};

    private static PuzzleChests searchedWhole() {
        PuzzleChests x = twoBars();
        x.search(0, 1000);
        return x;
    }

    private static PuzzleChests searchedSpent() {
        PuzzleChests x = twoBars();
        x.search(0, 8);
        return x;
    }

    private static PuzzleChests searchedOver() {
        PuzzleChests x = searchedWhole();
        x.truth(0, 0, 2, true);
        return x;
    }

    private static void search() {
        sentence(30, "n STATES are TAKEN at most: 1: it is WHOLE; 0: SPENT", () -> {
            for (int n = 1; n <= 12; n++) {
                PuzzleChests x = twoBars();
                due(n >= 9 ? 1 : 0, x.search(0, n));
                due(0, x.status());
                due(Math.min(n, 9), x.searched(1));
                due(n >= 9 ? 1 : 0, x.searched(4));
            }
        });
        sentence(30, "WHOLE behind the one STATE of a CHEST without PARTS", () -> {
            PuzzleChests x = house();
            due(1, x.search(2, 1));
            due(1, x.searched(0));
            due(1, x.searched(1));
        });
        sentence(30, "1000 are too few for 1024", () -> {
            PuzzleChests x = largest();
            due(0, x.search(0, 1000));
            due(1000, x.searched(1));
            due(0, x.searched(4));
        });
        sentence(30, "terms 4: begins at its STATE of then, START", () -> {
            PuzzleChests x = twoBars();
            x.ofNumber(0, 4);
            x.search(0, 1);
            due(4, x.searched(6));
            due(4, x.ordered(0));
            due(0, x.layer(4));
            due(NONE, x.layer(0));
        });
        sentence(30, "terms 4: of each all MOVES 0 .. 37 that MAY be are done, by their numbers, each from it", () -> {
            PuzzleChests x = house();
            x.row(0, 0, 3);
            x.part(0, 0, BAR, 3, 0);
            x.part(0, 1, RING, 4, 0);
            x.part(0, 2, PIN, 2, 3);
            x.place(0, 0, 1);
            x.search(0, 1);
            int[] orders = {1, 0, 2, 10, 4, 13};
            for (int i = 0; i < 6; i++) {
                due(orders[i], x.ordered(i));
                due(i == 0 ? 0 : 1, x.layer(orders[i]));
            }
            due(6, x.searched(0));
        });
        sentence(30, "terms 4: MOVES of SEAT 15 and the last tilt are done, too", () -> {
            PuzzleChests x = house();
            x.row(0, 3, 4);
            x.part(0, 14, PIN, 2, 5);
            x.part(0, 15, BAR, 2, 0);
            due(1, x.search(0, 4));
            int[] orders = {0, 2, 1, 3};
            for (int i = 0; i < 4; i++) {
                due(orders[i], x.ordered(i));
            }
        });
        sentence(30, "terms 4: each from it: what a tilt let fall is AT as it was for the next, at SEAT 15, too", () -> {
            PuzzleChests x = house();
            x.row(0, 3, 4);
            x.part(0, 14, PIN, 2, 2);
            x.part(0, 15, LATCH, 2, 0);
            due(0, x.search(0, 1));
            int[] orders = {0, 2, 1};
            for (int i = 0; i < 3; i++) {
                due(orders[i], x.ordered(i));
            }
            due(3, x.searched(0));
            x.ofNumber(0, 2);
            due(1, x.search(0, 2));
            due(2, x.ordered(0));
            due(3, x.ordered(1));
            due(2, x.searched(0));
        });
        sentence(30, "a later one takes the place of the SEARCH that was", () -> {
            PuzzleChests x = searchedWhole();
            due(1, x.search(1, 1));
            due(1, x.searched(0));
            due(1, x.searched(3));
            due(NONE, x.layer(8));
            due(NONE, x.ordered(1));
            due(NONE, x.shortest());
            x.clear(1);
            due(0, x.search(0, 1));
            due(0, x.searched(5));
            due(2, x.searched(0));
        });
        sentence(30, "terms 3: what is searched writes nothing, has its FINDINGS for nothing, and leaves the CHEST", () -> {
            PuzzleChests x = busy();
            int findings = x.count(11), latest = x.count(12);
            long before = x.digest(0);
            x.tell(0, 1);
            x.search(0, 1000);
            traced(x, 2, 1);
            due(findings, x.count(11));
            due(latest, x.count(12));
            due(before, x.digest(0));
            due(1, x.count(6));
        });
        sentence(30, "terms 2: what meets a FINDING does not hold in a SEARCH either", () -> {
            PuzzleChests x = busy();
            x.search(0, 1000);
            // the RING of SEAT 1 is barred; BAR, LATCH and DRAWER have 3, 2 and 3 places
            due(18, x.searched(0));
        });
        sentence(30, "terms 2: nor does one that meets a FINDING ahead of TRUTHS that are 1", () -> {
            int[] looks = {1, 2, 3, 4};
            for (int at : looks) {
                PuzzleChests x = house();
                x.row(0, 0, 3);
                x.part(0, 0, RING, 4, 0);
                x.part(0, 1, BLANK, 1, 0);
                x.condition(0, 0, at, 6);
                truths(x, 0, 1, 1, 1, 1, 1, 1);
                x.condition(0, -1, at, 6);
                truths(x, 1, 1, 1, 1, 1, 1, 1);
                due(1, x.search(0, 1));
                due(1, x.searched(0));
                due(NONE, x.shortest());
            }
        });
        sentence(30, "terms 2: nor one whose PART tells a number behind the TRUTHS", () -> {
            PuzzleChests x = with(RING, 6, 0);
            x.condition(0, 0, 0, 3);
            truths(x, 0, 1, 1, 1);
            x.search(0, 1000);
            // it tells 1, 2 and then 3, or goes lower to where it tells 0, and 5 once more lower
            int[] orders = {0, 5, 1, 4, 2};
            for (int i = 0; i < 5; i++) {
                due(orders[i], x.ordered(i));
            }
            due(5, x.searched(0));
        });
        sentence(30, "terms 6: the SEAT that STICKS is none of its matters", () -> {
            PuzzleChests x = twoBars();
            x.jam(0, 5, 0);
            due(1, x.search(0, 9));
            due(9, x.searched(0));
            due(4, x.shortest());
        });
        sentence(30, "terms 3: in a SEARCH, too, a LATCH that is AT SPAN less 1 stays, and PINS stop where barred", () -> {
            PuzzleChests x = house();
            x.row(0, 0, 2);
            x.part(0, 0, LATCH, 3, 0);
            x.part(0, 1, PIN, 4, 2);
            x.condition(0, 1, 1, 4);
            truths(x, 0, 1, 1, 0, 1);
            x.place(0, 0, 1);
            x.search(0, 1000);
            // from 1: the LATCH falls up to 2 and stays, or down to 0; the PIN comes up to 2 and no more down
            int[] orders = {1, 2, 0, 7, 8, 6};
            for (int i = 0; i < 6; i++) {
                due(orders[i], x.ordered(i));
            }
            due(6, x.searched(0));
        });
        noSuchChest(30, chest -> x -> x.search(chest, 0));
        refused(30, "OUTSIDE: n is not 1 .. 1000", OUTSIDE, x -> x.search(0, 0), x -> x.search(0, 1001),
            x -> x.search(1, -1), x -> x.search(0, LOW), x -> x.search(0, HIGH));
    }

    private static void goOn() {
        sentence(31, "n STATES more are TAKEN at most, likewise", () -> {
            PuzzleChests x = twoBars();
            x.search(0, 1);
            due(0, x.goOn(1));
            due(2, x.searched(1));
            due(0, x.goOn(6));
            due(8, x.searched(1));
            due(1, x.goOn(1));
            due(9, x.searched(1));
            for (int i = 0; i < 9; i++) {
                due(ORDERED[i], x.ordered(i));
            }
        });
        sentence(31, "of one that is WHOLE: 1, and none is TAKEN", () -> {
            PuzzleChests x = searchedWhole();
            due(1, x.goOn(1));
            due(1, x.goOn(1000));
            due(9, x.searched(1));
            due(9, x.searched(0));
        });
        sentence(31, "1000, 24 of which were left", () -> {
            PuzzleChests x = largest();
            x.search(0, 1000);
            due(0, x.goOn(23));
            due(1, x.goOn(1));
            due(1024, x.searched(0));
            due(1024, x.searched(1));
            due(11, x.searched(2));
            due(5, x.layer(1023));
        });
        sentence(31, "where the CHEST stands by then does not matter, and it stays there", () -> {
            PuzzleChests x = twoBars();
            x.search(0, 1);
            x.ofNumber(0, 7);
            due(1, x.goOn(1000));
            due(7, x.state(0));
            due(0, x.searched(6));
            for (int i = 0; i < 9; i++) {
                due(ORDERED[i], x.ordered(i));
            }
        });
        sentence(31, "terms 3: writes nothing, has its FINDINGS for nothing", () -> {
            PuzzleChests x = busy();
            int findings = x.count(11);
            x.tell(0, 1);
            due(1, x.goOn(1000));
            traced(x, 2, 1);
            due(findings, x.count(11));
        });
        refused(31, "OUTSIDE", OUTSIDE, x -> x.goOn(0), x -> x.goOn(1001), x -> x.goOn(LOW), x -> x.goOn(HIGH));
        refusedIn(Sentences::house, 31, "OUTSIDE comes ahead of STATE", OUTSIDE, x -> x.goOn(0), x -> x.goOn(1001));
        refusedIn(Sentences::twoBars, 31, "STATE: there is no SEARCH", STATE, x -> x.goOn(1), x -> x.goOn(1000));
        refusedIn(SearchesTest::searchedOver, 31, "STATE: it is OVER", STATE, x -> x.goOn(1));
    }

    private static void searched() {
        sentence(32, "each what, of one that is SPENT", () -> {
            PuzzleChests x = twoBars();
            x.copy(0, 1);
            x.ofNumber(1, 1);
            x.search(1, 1);
            int[] told = {3, 1, 2, 1, 0, 0, 1};
            for (int what = 0; what < 7; what++) {
                due(told[what], x.searched(what));
            }
            due(0, x.status());
        });
        sentence(32, "each what, of one that is WHOLE", () -> {
            PuzzleChests x = searchedWhole();
            int[] told = {9, 9, 7, 0, 1, 0, 0};
            for (int what = 0; what < 7; what++) {
                due(told[what], x.searched(what));
            }
        });
        sentence(32, "each what, of one that is OVER", () -> {
            PuzzleChests x = twoBars();
            x.ofNumber(0, 5);
            x.search(0, 1);
            x.clear(0);
            int[] told = {4, 1, 2, 0, 0, 1, 5};
            for (int what = 0; what < 7; what++) {
                due(told[what], x.searched(what));
            }
        });
        sentence(32, "terms 4: not OVER, if all was refused or met a FINDING, or was done on other CHESTS", () -> {
            PuzzleChests x = searchedWhole();
            x.row(0, 0, -2);
            x.row(0, 4, 1);
            x.part(0, 2, BAR, 2, 0);
            x.part(0, 0, 6, 2, 0);
            x.take(0, 2);
            x.condition(0, 0, 0, 7);
            x.truth(0, 0, 3, true);
            x.copyTruths(0, 0, 0, 1, 0, 4);
            x.clear(3);
            x.copy(0, 3);
            x.copy(0, 1);
            x.row(1, 0, 1);
            x.clear(1);
            x.make(0, 1, 41);
            due(0, x.searched(5));
        });
        sentence(32, "terms 4: not OVER by moves, places or the like", () -> {
            PuzzleChests x = searchedWhole();
            x.jam(0, 3, 0);
            x.jam(0, 0, -1);
            x.place(0, 0, 1);
            x.ofNumber(0, 0);
            x.move(0, 1);
            x.back(0);
            type(x, 1, 1, 3, 3);
            x.attempt(0);
            x.play(0);
            x.markAll();
            x.goOn(1);
            due(0, x.searched(5));
            due(4, x.shortest());
        });
        sentence(32, "the greatest LAYER and 1: 1 of START alone", () -> {
            PuzzleChests x = house();
            x.search(0, 1);
            due(1, x.searched(2));
        });
        sentence(32, "NONE: there is none", () -> {
            PuzzleChests x = twoBars();
            for (int what = 0; what < 7; what++) {
                due(NONE, x.searched(what));
                due(0, x.status());
            }
        });
        refused(32, "UNKNOWN", UNKNOWN, x -> x.searched(-1), x -> x.searched(7), x -> x.searched(LOW), x -> x.searched(HIGH));
        refusedIn(Sentences::house, 32, "UNKNOWN comes ahead of NONE", UNKNOWN, x -> x.searched(-1), x -> x.searched(7));
    }

    private static void orderedAndLayer() {
        sentence(33, "the NUMBER of the STATE of an ORDER", () -> {
            PuzzleChests x = searchedWhole();
            for (int i = 0; i < 9; i++) {
                due(ORDERED[i], x.ordered(i));
            }
        });
        sentence(33, "NONE: there is none such", () -> {
            PuzzleChests x = searchedWhole();
            for (int order : new int[] {-1, 9, 1023, 1024, LOW, HIGH}) {
                due(NONE, x.ordered(order));
                due(0, x.status());
            }
            due(NONE, house().ordered(0));
            PuzzleChests y = largest();
            y.search(0, 1000);
            y.goOn(1000);
            due(1, y.ordered(1023) >= 0 ? 1 : 0);
            due(NONE, y.ordered(1024));
        });
        sentence(33, "of one that is SPENT: also those not TAKEN; of one that is OVER, too", () -> {
            PuzzleChests x = twoBars();
            x.search(0, 4);
            due(8, x.ordered(5));
            due(NONE, x.ordered(6));
            x.clear(0);
            due(8, x.ordered(5));
        });
        sentence(34, "the LAYER of the STATE of a NUMBER", () -> {
            PuzzleChests x = searchedWhole();
            for (int i = 0; i < 9; i++) {
                due(LAYERS[i], x.layer(ORDERED[i]));
            }
        });
        sentence(34, "NONE: it was not COME TO", () -> {
            PuzzleChests x = twoBars();
            due(NONE, x.layer(0));
            x.search(0, 3);
            int[] layers = {0, 1, 2, NONE, NONE, 3, NONE, NONE, NONE};
            for (int i = 0; i < 9; i++) {
                due(layers[i], x.layer(i));
                due(0, x.status());
            }
            for (int number : new int[] {-1, 9, 1023, 1024, LOW, HIGH}) {
                due(NONE, x.layer(number));
                due(0, x.status());
            }
        });
        sentence(34, "of one that is OVER, too", () -> {
            PuzzleChests x = searchedWhole();
            x.clear(0);
            due(6, x.layer(6));
        });
    }

    /** All are a RING of 4, OPEN where it tells one number. */
    private static PuzzleChests ringOpenAt(int told) {
        PuzzleChests x = with(RING, 4, 0);
        x.condition(0, -1, 0, 4);
        x.truth(0, 0, told, true);
        return x;
    }

    private static void shortest() {
        sentence(35, "how many MOVES THE WAY has", () -> {
            due(4, searchedWhole().shortest());
            due(0, searchedWhole().status());
        });
        sentence(35, "0, if START is OPEN", () -> {
            PuzzleChests x = twoBars();
            x.ofNumber(0, 7);
            x.search(0, 1);
            due(0, x.shortest());
        });
        sentence(35, "also of one that is SPENT, if one that is OPEN was COME TO", () -> {
            PuzzleChests x = twoBars();
            x.search(0, 3);
            due(SPENT, x.shortest());
            x.goOn(1);
            due(0, x.searched(4));
            due(4, x.shortest());
        });
        sentence(35, "SPENT: none that is OPEN was COME TO, and it is not WHOLE; not refused", () -> {
            PuzzleChests x = twoBars();
            x.truth(0, 1, 2, false);
            x.search(0, 8);
            due(SPENT, x.shortest());
            due(0, x.status());
        });
        sentence(35, "NONE: likewise, but WHOLE", () -> {
            PuzzleChests x = twoBars();
            x.truth(0, 1, 2, false);
            x.search(0, 9);
            due(NONE, x.shortest());
            due(0, x.status());
            due(1, x.search(1, 1));
            due(NONE, x.shortest());
        });
        refusedIn(Sentences::twoBars, 35, "STATE: no SEARCH", STATE, x -> x.shortest());
        refusedIn(SearchesTest::searchedOver, 35, "STATE: it is OVER", STATE, x -> x.shortest());
    }

    private static void way() {
        sentence(36, "MOVE k of THE WAY (from 0)", () -> {
            PuzzleChests x = searchedWhole();
            int[] moves = {1, 1, 3, 3};
            for (int k = 0; k < 4; k++) {
                due(moves[k], x.way(k));
            }
        });
        sentence(36, "terms 4: to the STATE that is OPEN with the least ORDER, as they were come to", () -> {
            PuzzleChests x = ringOpenAt(3);
            x.search(0, 1000);
            due(2, x.shortest());
            due(0, x.way(0));
            due(0, x.way(1));
            x = with(BAR, 3, 0);
            x.condition(0, -1, 0, 3);
            truths(x, 0, 1, 0, 1);
            x.place(0, 0, 1);
            x.search(0, 1000);
            due(0, x.way(0));
            due(0, x.along(1));
        });
        sentence(36, "a tilt on THE WAY", () -> {
            PuzzleChests x = with(PIN, 3, 4);
            x.condition(0, -1, 0, 3);
            x.truth(0, 0, 2, true);
            x.search(0, 1);
            due(36, x.way(0));
            due(NONE, x.way(1));
            due(2, x.along(1));
        });
        sentence(36, "NONE: there is none such", () -> {
            PuzzleChests x = searchedWhole();
            for (int k : new int[] {-1, 4, 5, 1024, LOW, HIGH}) {
                due(NONE, x.way(k));
                due(0, x.status());
            }
        });
        sentence(36, "NONE: THE WAY has no MOVES", () -> {
            PuzzleChests x = twoBars();
            x.ofNumber(0, 8);
            x.search(0, 9);
            due(NONE, x.way(0));
        });
        sentence(36, "NONE: no WAY, no SEARCH", () -> {
            PuzzleChests x = twoBars();
            due(NONE, x.way(0));
            x.search(0, 3);
            due(NONE, x.way(0));
            due(0, x.status());
            x.search(1, 1);
            due(NONE, x.way(0));
        });
        sentence(36, "of one that is OVER, too, as it was come to", () -> {
            PuzzleChests x = searchedWhole();
            x.clear(0);
            due(1, x.way(1));
            due(3, x.way(2));
        });
        sentence(37, "the NUMBER of the STATE behind k MOVES of THE WAY", () -> {
            PuzzleChests x = searchedWhole();
            int[] numbers = {0, 1, 2, 5, 8};
            for (int k = 0; k < 5; k++) {
                due(numbers[k], x.along(k));
            }
        });
        sentence(37, "behind 0 MOVES: START, also where THE WAY has none", () -> {
            PuzzleChests x = twoBars();
            x.ofNumber(0, 8);
            x.search(0, 9);
            due(8, x.along(0));
            due(NONE, x.along(1));
        });
        sentence(37, "NONE likewise: there is none such", () -> {
            PuzzleChests x = searchedWhole();
            for (int k : new int[] {-1, 5, 6, 1024, LOW, HIGH}) {
                due(NONE, x.along(k));
                due(0, x.status());
            }
        });
        sentence(37, "NONE likewise: no WAY, no SEARCH", () -> {
            PuzzleChests x = twoBars();
            due(NONE, x.along(0));
            x.search(0, 3);
            due(NONE, x.along(0));
            due(0, x.status());
            x.search(1, 1);
            due(NONE, x.along(0));
        });
        sentence(37, "of one that is OVER, too", () -> {
            PuzzleChests x = searchedWhole();
            x.clear(0);
            due(5, x.along(3));
        });
    }

    /** Three PINS that stand between their ends, as they will never stand again; OPEN is START alone. */
    private static PuzzleChests openOnce() {
        PuzzleChests x = house();
        x.row(0, 0, 3);
        for (int seat = 0; seat < 3; seat++) {
            x.part(0, seat, PIN, 3, 2 * seat);
            x.place(0, seat, 1);
            x.condition(0, -1, seat, 2);
            x.truth(0, seat, 1, true);
        }
        x.search(0, 1000);
        return x;
    }

    private static PuzzleChests trapsWhole() {
        PuzzleChests x = withTraps();
        x.search(0, 1000);
        return x;
    }

    private static PuzzleChests trapsSpent() {
        PuzzleChests x = withTraps();
        x.search(0, 11);
        return x;
    }

    private static PuzzleChests trapsOver() {
        PuzzleChests x = trapsWhole();
        x.truth(0, 0, 1, true);
        return x;
    }

    private static void traps() {
        sentence(38, "terms 4: a TRAP: no MOVES lead to one that is OPEN", () -> {
            PuzzleChests x = trapsWhole();
            for (int number = 0; number < 12; number++) {
                due(number >= 3 && number < 6 ? 1 : 0, x.trap(number));
                due(0, x.status());
            }
        });
        sentence(38, "terms 4: one that is OPEN is no TRAP, though no MOVE leads back to it", () -> {
            PuzzleChests x = openOnce();
            due(27, x.searched(0));
            due(0, x.trap(13));
            due(1, x.trap(14));
            due(1, x.trap(0));
            due(26, x.traps());
        });
        sentence(38, "NONE: it was not COME TO", () -> {
            PuzzleChests x = trapsWhole();
            for (int number : new int[] {-1, 12, 1023, 1024, LOW, HIGH}) {
                due(NONE, x.trap(number));
                due(0, x.status());
            }
            PuzzleChests y = twoBars();
            y.truth(0, 0, 2, false);
            y.search(0, 1000);
            due(1, y.trap(2));
            due(NONE, y.trap(3));
        });
        refusedIn(Sentences::withTraps, 38, "STATE: no SEARCH", STATE, x -> x.trap(0), x -> x.trap(-1));
        refusedIn(SearchesTest::trapsOver, 38, "STATE: it is OVER", STATE, x -> x.trap(0), x -> x.trap(99));
        refusedIn(SearchesTest::trapsSpent, 38, "STATE: it is SPENT", STATE, x -> x.trap(0), x -> x.trap(99));
        sentence(39, "how many are TRAPS", () -> {
            due(3, trapsWhole().traps());
            due(0, searchedWhole().traps());
        });
        sentence(39, "all STATES COME TO, if none is OPEN", () -> {
            PuzzleChests x = twoBars();
            x.truth(0, 1, 2, false);
            x.search(0, 1000);
            due(9, x.traps());
            x = largest();
            x.search(0, 1000);
            x.goOn(24);
            due(1024, x.traps());
            due(1, x.trap(1023));
        });
        sentence(39, "0, if START is OPEN and all MOVES lead back", () -> {
            PuzzleChests x = with(BAR, 4, 0);
            x.condition(0, -1, 0, 1);
            x.truth(0, 0, 0, true);
            x.search(0, 1000);
            due(0, x.traps());
            due(0, x.trap(3));
        });
        sentence(39, "of the latest SEARCH, one behind the other", () -> {
            PuzzleChests x = trapsWhole();
            due(3, x.traps());
            x.truth(0, 2, 1, false);
            x.search(0, 1000);
            due(12, x.traps());
            x.truth(0, 2, 1, true);
            x.search(0, 1000);
            due(3, x.traps());
            due(0, x.trap(2));
            x.search(1, 1);
            due(1, x.traps());
        });
        sentence(39, "none of the most STATES and MOVES between them", SearchesTest::mostRoads);
        refusedIn(Sentences::withTraps, 39, "STATE likewise: no SEARCH", STATE, x -> x.traps());
        refusedIn(SearchesTest::trapsOver, 39, "STATE likewise: it is OVER", STATE, x -> x.traps());
        refusedIn(SearchesTest::trapsSpent, 39, "STATE likewise: it is SPENT", STATE, x -> x.traps());
    }

    /** As many STATES, and as many MOVES between them, as there can be: OPEN is one corner, START the other. */
    private static void mostRoads() {
        int[][] spans = {{4, 4, 4, 4, 4}, {2, 2, 2, 2, 2, 2, 2, 2, 2, 2}, {3, 3, 3, 3, 3, 4}, {3, 3, 3, 3, 3, 2, 2}};
        int[] numbers = {1024, 1024, 972, 972};
        int[] farthest = {10, 10, 7, 7};
        PuzzleChests x = house();
        for (int i = 0; i < spans.length; i++) {
            x.clear(0);
            for (int row = 0; row < 4; row++) {
                x.row(0, row, 4);
            }
            int far = 0;
            for (int seat = 0; seat < spans[i].length; seat++) {
                int span = spans[i][seat];
                x.part(0, 15 - seat, RING, span, 0);
                x.condition(0, -1, 15 - seat, span);
                x.truth(0, seat, (span / 2 + 1) % span, true);
                far += span / 2;
            }
            x.search(0, 1000);
            due(1, x.goOn(1000));
            due(numbers[i], x.searched(0));
            due(0, x.traps());
            due(farthest[i], far);
            due(far, x.shortest());
            for (int left = far; left > 0; left--) {
                due(1, x.move(0, x.hint(0)));
            }
            due(1, x.isOpen(0));
            due(NONE, x.hint(0));
        }
    }

    private static void hint() {
        sentence(40, "terms 4: the first MOVE after which the fewest MOVES to one that is OPEN are one less", () -> {
            PuzzleChests x = ringOpenAt(3);
            x.search(0, 1000);
            int[] hints = {0, 1, NONE, 0};
            for (int at = 0; at < 4; at++) {
                x.place(0, 0, at);
                due(at, x.state(0));
                due(hints[at], x.hint(0));
                due(0, x.status());
            }
            PuzzleChests y = searchedWhole();
            int[] of = {1, 1, 3, 1, 1, 3, NONE, NONE, NONE};
            for (int number = 0; number < 9; number++) {
                y.ofNumber(0, number);
                due(of[number], y.hint(0));
            }
        });
        sentence(40, "a tilt, too", () -> {
            PuzzleChests x = with(PIN, 3, 5);
            x.condition(0, -1, 0, 3);
            x.truth(0, 0, 2, true);
            x.search(0, 1000);
            due(37, x.hint(0));
        });
        sentence(40, "NONE: it is OPEN", () -> {
            PuzzleChests x = trapsWhole();
            for (int number = 6; number < 12; number++) {
                x.ofNumber(0, number);
                due(NONE, x.hint(0));
                due(0, x.status());
            }
        });
        sentence(40, "NONE: a TRAP", () -> {
            PuzzleChests x = trapsWhole();
            for (int number = 3; number < 6; number++) {
                x.ofNumber(0, number);
                due(NONE, x.hint(0));
                due(0, x.status());
            }
        });
        sentence(40, "NONE: it was not COME TO, though a MOVE would open it", () -> {
            PuzzleChests x = twoBars();
            x.condition(0, 0, 1, 3);
            x.truth(0, 2, 1, true);
            x.search(0, 1000);
            due(1, x.searched(0));
            x.ofNumber(0, 5);
            due(1, x.may(0, 3));
            due(NONE, x.hint(0));
            due(0, x.status());
        });
        sentence(40, "NONE: it was not COME TO, though a MOVE leads to one that was", () -> {
            PuzzleChests x = with(PIN, 3, 0);
            x.condition(0, -1, 0, 3);
            x.truth(0, 0, 2, true);
            x.search(0, 1000);
            due(32, x.hint(0));
            x.ofNumber(0, 1);
            due(NONE, x.hint(0));
            due(0, x.status());
        });
        sentence(40, "NONE: it is OPEN, though all MOVES lead into TRAPS", () -> due(NONE, openOnce().hint(0)));
        sentence(40, "at the STATE of the CHEST, which is left, wherever the SEARCH began", () -> {
            PuzzleChests x = trapsWhole();
            x.ofNumber(0, 2);
            due(5, x.hint(0));
            due(2, x.state(0));
            x.ofNumber(0, 1);
            due(1, x.hint(0));
        });
        sentence(40, "terms 3: what is hinted writes nothing, has its FINDINGS for nothing", () -> {
            PuzzleChests x = busy();
            x.goOn(1000);
            int findings = x.count(11), latest = x.count(12);
            x.tell(0, 1);
            due(1, x.hint(0));
            traced(x, 2, 1);
            due(findings, x.count(11));
            due(latest, x.count(12));
        });
        sentence(40, "terms 6: the SEAT that STICKS is none of its matters", () -> {
            PuzzleChests x = searchedWhole();
            x.jam(0, 4, 0);
            due(1, x.hint(0));
        });
        noSuchChest(40, chest -> x -> x.hint(chest));
        refusedIn(Sentences::house, 40, "UNKNOWN comes ahead of STATE", UNKNOWN, x -> x.hint(3), x -> x.hint(-1));
        refusedIn(Sentences::twoBars, 40, "STATE: there is no SEARCH", STATE, x -> x.hint(0));
        refusedIn(SearchesTest::searchedWhole, 40, "STATE: the SEARCH is not of this CHEST", STATE, x -> x.hint(1), x -> x.hint(2));
        refusedIn(SearchesTest::searchedOver, 40, "STATE: it is OVER", STATE, x -> x.hint(0));
        refusedIn(SearchesTest::searchedSpent, 40, "STATE: it is SPENT", STATE, x -> x.hint(0));
    }

    public static void main(String[] args) {
        search();
        goOn();
        searched();
        orderedAndLayer();
        shortest();
        way();
        traps();
        hint();
        end();
    }
}
