/** The boundary cases of what is asked, of the image and of the counts, each by its promise's number. */
public final class Bounds16To39Test extends Checks {
    private static final String SIXTY = "net 2;lay 0 1" + ",0 1".repeat(59);
    private static final int ALL = 0xFFFF;

    /** A question with one number left open. */
    private interface Ask {
        long of(CableForest x, int number);
    }

    public static void main(String[] args) {
        runPromises(Bounds16To39Test.class, 16, 39);
    }

    /** At the first and the last node and beyond them, also of nodes that an earlier net had. */
    private static void nodeEdges(String what, Ask ask) {
        for (String text : new String[] {"", "net 2", "net 16", "net 16;net 5"}) {
            CableForest x = made(text);
            edges(what + " with " + x.count(0) + " nodes", n -> ask.of(x, n), 0, x.count(0) - 1, IOOB);
        }
        busyLeaves(what + " 8", x -> ask.of(x, 8), IOOB);
        busyLeaves(what + " -1", x -> ask.of(x, -1), IOOB);
    }

    private static void levelEdges(String what, Ask ask) {
        for (String text : new String[] {"", "net 2", "net 3", "net 7", "net 8", "net 15", "net 16", "net 16;net 5"}) {
            CableForest x = made(text);
            edges(what + " with " + x.count(0) + " nodes", l -> ask.of(x, l), 0, x.count(1), IOOB);
        }
        busyLeaves(what + " 4", x -> ask.of(x, 4), IOOB);
        busyLeaves(what + " -1", x -> ask.of(x, -1), IOOB);
    }

    /** At the first and the last cable, tree ones, and beyond them; lifted ones are cables, those of an earlier net are not. */
    private static void cableEdges(String what, Ask ask) {
        for (String text : new String[] {"lay 0 1", path(16), path(16) + ";" + path(4)}) {
            CableForest x = made(text);
            edges(what + " with " + x.count(2) + " cables", c -> ask.of(x, c), 0, x.count(2) - 1, IOOB);
        }
        CableForest full = made(SIXTY);
        is(what + " 59", of(() -> ask.of(full, 59)) == IOOB, false);
        is(what + " 60", of(() -> ask.of(full, 60)), IOOB);
        CableForest gone = made(path(4) + ";net 4");
        is(what + " 0 behind net", of(() -> ask.of(gone, 0)), IOOB);
        CableForest lifted = busy();
        is(what + " of a lifted one", of(() -> ask.of(lifted, 3)) == IOOB, false);
        busyLeaves(what + " 10", x -> ask.of(x, 10), IOOB);
        busyLeaves(what + " -1", x -> ask.of(x, -1), IOOB);
    }

    private static void whatEdges(String what, Ask ask, int last) {
        CableForest x = busy();
        edges(what, w -> ask.of(x, w), 0, last, NSE);
        busyLeaves(what + ", what " + (last + 1), y -> ask.of(y, last + 1), NSE);
        busyLeaves(what + ", what -1", y -> ask.of(y, -1), NSE);
    }

    // ---- 16: connected

    static void p16_nodes() {
        nodeEdges("connected", (x, n) -> x.connected(n, 0) ? 1 : 0);
        nodeEdges("connected to", (x, n) -> x.connected(0, n) ? 1 : 0);
    }

    static void p16_aNodeWithItselfAndTheFirstWithTheLast() {
        is("with itself", new CableForest().connected(3, 3), true);
        is("with another", new CableForest().connected(3, 2), false);
        is("by fifteen cables", made(path(16)).connected(0, 15), true);
        is("by fourteen of them", made(path(16) + ";lift 14").connected(0, 15), false);
    }

    // ---- 17: node

    static void p17_nodesAndWhats() {
        nodeEdges("node", (x, n) -> x.node(n, 0));
        whatEdges("node", (x, w) -> x.node(0, w), 5);
        is("the exception told first", of(() -> busy().node(8, 6)), IOOB);
    }

    static void p17_aNodeAlone() {
        CableForest x = made("net 16");
        int[] due = {15, 0x8000, 0, 0, 0, 0x8000};
        for (int what = 0; what < due.length; what++) {
            is("what " + what, x.node(15, what), due[what]);
        }
    }

    static void p17_allSixteen() {
        CableForest x = made(path(16) + ",15 0");
        int[] due = {0, ALL, 2, 1, 8, ALL};
        for (int what = 0; what < due.length; what++) {
            is("what " + what, x.node(15, what), due[what]);
        }
        is("span of a path's end", made(path(16)).node(15, 4), 15);
        is("span of its middle", made(path(16)).node(8, 4), 8);
        is("island on a path", made(path(16)).node(8, 5), 1 << 8);
    }

    static void p17_sixtyCables() {
        CableForest x = made(SIXTY);
        is("cables", x.node(1, 2), 60);
        is("tree cables", x.node(1, 3), 1);
        is("span", x.node(1, 4), 1);
        x.lift(0);
        is("cables", x.node(0, 2), 59);
        is("tree cables", x.node(0, 3), 1);
    }

    static void p17_islandOfSixtyCables() {
        is("island", made(SIXTY).node(0, 5), 3);
        is("island of a node beside them", made(SIXTY.replace("net 2", "net 3")).node(2, 5), 4);
    }

    static void p17_islandOfOneAndTwoCables() {
        is("by one cable", made("lay 0 1").node(0, 5), 1);
        is("by two", made("lay 0 1,0 1").node(0, 5), 3);
        is("by two, one lifted", made("lay 0 1,0 1;lift 0").node(0, 5), 1);
    }

    // ---- 18: cable

    static void p18_cablesAndWhats() {
        cableEdges("cable", (x, c) -> x.cable(c, 0));
        whatEdges("cable", (x, w) -> x.cable(0, w), 6);
        is("the exception told first", of(() -> busy().cable(10, 7)), IOOB);
    }

    static void p18_ofALiftedOne() {
        CableForest x = busy();
        x.lift(0);
        int[] due = {0, 1, 2, 2, 2, 7, 0};
        for (int what = 0; what < due.length; what++) {
            is("what " + what, x.cable(0, what), due[what]);
        }
    }

    static void p18_loss() {
        CableForest x = made(path(16));
        is("of the middle one", x.cable(7, 6), 64);
        is("of the first one", x.cable(0, 6), 15);
        x.lay(0, 15);
        is("in a circle", x.cable(7, 6), 0);
        is("of a spare one", x.cable(15, 6), 0);
        x.lift(3);
        is("of a lifted one", x.cable(3, 6), 0);
        is("of one that came in place", x.cable(15, 6), 48);
    }

    // ---- 19: part

    static void p19_levelsAndNodes() {
        levelEdges("part", (x, l) -> x.part(l, 0));
        nodeEdges("part", (x, n) -> x.part(0, n));
    }

    static void p19_oneNodeAndAll() {
        is("one", made("net 16").part(0, 15), 0x8000);
        is("all", made(path(16)).part(0, 15), ALL);
        is("on level 1", made(path(16)).part(1, 15), 0x8000);
        is("half on level 1", made(path(16) + ";lift 7").part(1, 0), 0xFF);
    }

    // ---- 20: level

    static void p20_levelsAndWhats() {
        levelEdges("level", (x, l) -> x.level(l, 0));
        whatEdges("level", (x, w) -> x.level(0, w), 3);
        is("the exception told first", of(() -> busy().level(4, 4)), IOOB);
    }

    static void p20_oneTreeAndSixteen() {
        CableForest x = made(path(16));
        is("one", x.level(0, 0), 1);
        is("its nodes", x.level(0, 3), 16);
        is("sixteen", x.level(4, 0), 16);
        is("their nodes", x.level(4, 3), 1);
        is("cables", x.level(0, 1), 15);
        is("spare ones", made(SIXTY).level(0, 2), 59);
        is("on height", made(SIXTY).level(1, 2), 0);
    }

    static void p20_justThatLevel() {
        CableForest x = busy();
        int[][] due = {{2, 4, 2, 6}, {6, 1, 0, 2}, {7, 1, 0, 2}, {8, 0, 0, 1}};
        for (int level = 0; level < 4; level++) {
            for (int what = 0; what < 4; what++) {
                is("level " + level + ", " + what, x.level(level, what), due[level][what]);
            }
        }
    }

    // ---- 21: tour

    static void p21_levelsAndNodes() {
        levelEdges("tour", (x, l) -> x.tour(l, 0, 0));
        nodeEdges("tour", (x, n) -> x.tour(0, n, 0));
        is("no level, no k", of(() -> busy().tour(4, 0, -1)), IOOB);
    }

    static void p21_theFirstAndTheLastOfATour() {
        CableForest x = made(path(16));
        is("before the first", x.tour(0, 0, -1), -1);
        is("the first", x.tour(0, 0, 0), 14);
        is("the last", x.tour(0, 0, 45), 214);
        is("behind the last", x.tour(0, 0, 46), -1);
        is("least", x.tour(0, 0, Integer.MIN_VALUE), -1);
        is("most", x.tour(0, 0, Integer.MAX_VALUE), -1);
    }

    static void p21_oneNode() {
        CableForest x = made("net 16");
        is("the only one", x.tour(4, 15, 0), 15);
        is("behind it", x.tour(4, 15, 1), -1);
        is("before it", x.tour(4, 15, -1), -1);
    }

    static void p21_nothingOfAnotherTour() {
        CableForest x = made("net 6;lay 2 3,0 5");
        int[] lengths = {4, 1, 4, 4, 1, 4};
        for (int node = 0; node < 6; node++) {
            for (int k = lengths[node]; k <= 20; k++) {
                is("behind the last of " + node + ", k " + k, x.tour(0, node, k), -1);
            }
            is("before the first of " + node, x.tour(0, node, -1), -1);
            is("alone on height", x.tour(2, node, 1), -1);
            is("alone on height", x.tour(2, node, 2), -1);
        }
    }

    static void p21_bracketsOfCable59() {
        CableForest x = made(SIXTY + ";fail 0");
        isTour(x, 0, 1, "1");
        CableForest y = made(SIXTY + ";swap 0 59");
        isTour(y, 0, 1, "0 159 1 259");
    }

    static void p21_aTourThatBeginsWithABracket() {
        CableForest x = made("net 4;lay 0 1,0 2,3 1;lift 0");
        isTour(x, 0, 0, "101 2 201 0");
        isTour(x, 0, 3, "3 102 1 202");
        is("the opening one", x.tour(0, 2, 0), 101);
    }

    // ---- 22: deep

    static void p22_levelsAndNodes() {
        levelEdges("deep", (x, l) -> x.deep(l, 0));
        nodeEdges("deep", (x, n) -> x.deep(0, n));
    }

    static void p22_noneAndAllFifteen() {
        is("alone", new CableForest().deep(0, 3), 0);
        // The tour is turned to 14; from there 0 lies behind fourteen cables.
        CableForest x = made(path(16));
        is("where it is turned to", x.deep(0, 14), 0);
        is("beside it", x.deep(0, 15), 1);
        is("the far end", x.deep(0, 0), 14);
        CableForest y = made("net 4;lay 0 1,0 2,3 1;lift 0");
        is("behind a bracket that begins the tour", y.deep(0, 2), 1);
        is("behind its closing one", y.deep(0, 0), 0);
    }

    // ---- 23: way

    static void p23_nodes() {
        nodeEdges("way", (x, n) -> x.way(n, 0, 0));
        nodeEdges("way to", (x, n) -> x.way(0, n, -1));
    }

    static void p23_kNoneTellsHowMany() {
        is("fifteen", made(path(16)).way(0, 15, -1), 15);
        is("to itself", new CableForest().way(3, 3, -1), 0);
        is("not connected", new CableForest().way(3, 2, -1), -1);
    }

    static void p23_theFirstAndTheLastNode() {
        CableForest x = made(path(16));
        is("k -2", x.way(15, 0, -2), -1);
        is("k 0", x.way(15, 0, 0), 15);
        is("k 1", x.way(15, 0, 1), 14);
        is("k 15", x.way(15, 0, 15), 0);
        is("k 16", x.way(15, 0, 16), -1);
        is("k least", x.way(15, 0, Integer.MIN_VALUE), -1);
        is("k most", x.way(15, 0, Integer.MAX_VALUE), -1);
        is("to itself, k 0", x.way(7, 7, 0), 7);
        is("to itself, k 1", x.way(7, 7, 1), -1);
        is("not connected, k 0", new CableForest().way(3, 2, 0), -1);
    }

    // ---- 24: near

    static void p24_nodes() {
        nodeEdges("near", (x, n) -> x.near(n, 0));
        nodeEdges("near to", (x, n) -> x.near(0, n));
    }

    static void p24_zeroFifteenAndNone() {
        is("itself", new CableForest().near(3, 3), 0);
        is("fifteen", made(path(16)).near(15, 0), 15);
        is("none", made(path(16) + ";lift 14").near(15, 0), -1);
        is("by a spare one", made(path(16) + ",0 15").near(15, 0), 1);
        is("by a lifted one", made(path(16) + ",0 15;lift 15").near(15, 0), 15);
    }

    // ---- 25: heir

    static void p25_cables() {
        cableEdges("heir", CableForest::heir);
    }

    static void p25_noTreeCable() {
        busyLeaves("a spare one", x -> x.heir(9), ISE);
        busyLeaves("a lifted one", x -> x.heir(3), ISE);
    }

    static void p25_noneAndOne() {
        busyLeaves("none", x -> x.heir(2), -1);
        busyLeaves("one", x -> x.heir(4), 9);
        busyLeaves("one of a lower level", x -> x.heir(0), 8);
        CableForest x = made(SIXTY);
        is("the first of fifty-nine", x.heir(0), 1);
        for (int cable = 1; cable < 59; cable++) {
            x.lift(cable);
        }
        is("the last of them", x.heir(0), 59);
    }

    static void p25_oneBehindTheOther() {
        CableForest x = made("lay 0 1,1 2");
        x.lay(2, 0);
        is("of 0", x.heir(0), 2);
        is("of 1", x.heir(1), 2);
        x.lift(2);
        is("of 0", x.heir(0), -1);
    }

    // ---- 26: would

    static void p26_cablesAndWhats() {
        cableEdges("would", (x, c) -> x.would(c, 0));
        whatEdges("would", (x, w) -> x.would(4, w), 1);
    }

    static void p26_theExceptionToldFirst() {
        busyLeaves("no cable, no what", x -> x.would(10, 2), IOOB);
        busyLeaves("lifted, no what", x -> x.would(3, 2), NSE);
        busyLeaves("lifted", x -> x.would(3, 1), ISE);
    }

    static void p26_ofASpareOneNothing() {
        busyLeaves("looked", x -> x.would(9, 0), 0);
        busyLeaves("risen", x -> x.would(9, 1), 0);
    }

    static void p26_nothingHappens() {
        busyLeaves("looked", x -> x.would(0, 0), 1);
        CableForest x = made("net 5;lay 0 1,0 1,1 2,2 3,3 4,1 3");
        is("looked", x.would(2, 0), 2);
        is("risen", x.would(2, 1), 2);
        is("looked so far", x.count(8), 0);
        is("risen so far", x.count(7), 0);
    }

    static void p26_oneBehindTheOther() {
        CableForest x = made("lay 0 1,1 2");
        x.lay(2, 0);
        is("of 0", x.would(0, 0), 1);
        is("of 1", x.would(1, 0), 1);
        is("of 0 again", x.would(0, 0), 1);
        x.lift(2);
        is("of 0", x.would(0, 0), 0);
    }

    // ---- 27: bridge

    static void p27_cables() {
        cableEdges("bridge", (x, c) -> x.bridge(c) ? 1 : 0);
    }

    static void p27_treeSpareAndLifted() {
        CableForest x = busy();
        is("without an heir", x.bridge(2), true);
        is("with one", x.bridge(4), false);
        is("spare", x.bridge(9), false);
        is("lifted", x.bridge(3), false);
        is("one of one", made("lay 0 1").bridge(0), true);
        is("one of two", made("lay 0 1,0 1").bridge(0), false);
    }

    // ---- 28: kin

    static void p28_levelsNodesAndWhats() {
        levelEdges("kin", (x, l) -> x.kin(l, 0, 0));
        nodeEdges("kin", (x, n) -> x.kin(0, n, 1));
        whatEdges("kin", (x, w) -> x.kin(0, 0, w), 1);
        is("the exception told first", of(() -> busy().kin(4, 0, 2)), IOOB);
        is("the exception told first", of(() -> busy().kin(0, 8, 2)), IOOB);
    }

    static void p28_aboveNone() {
        is("alone", new CableForest().kin(0, 3, 0), -1);
        is("where the tour is turned to", made(path(16)).kin(0, 14, 0), -1);
        is("beside it", made(path(16)).kin(0, 15, 0), 14);
        // Behind a split a tour may begin with a bracket.
        CableForest x = made("net 4;lay 0 1,0 2,3 1;lift 0");
        isTour(x, 0, 0, "101 2 201 0");
        is("in no brackets", x.kin(0, 0, 0), -1);
        is("in the first ones", x.kin(0, 2, 0), 0);
        is("below it", x.kin(0, 2, 1), 4);
        is("below the other", x.kin(0, 0, 1), 5);
    }

    static void p28_belowItselfAndAll() {
        is("alone", new CableForest().kin(0, 3, 1), 8);
        is("all", made(path(16)).kin(0, 14, 1), ALL);
        is("itself", made(path(16)).kin(0, 0, 1), 1);
        is("all but two", made(path(16)).kin(0, 13, 1), 0x3FFF);
    }

    // ---- 29: meet

    static void p29_levelsAndNodes() {
        levelEdges("meet", (x, l) -> x.meet(l, 0, 0));
        nodeEdges("meet", (x, n) -> x.meet(0, n, 0));
        nodeEdges("meet with", (x, n) -> x.meet(0, 0, n));
    }

    static void p29_itselfNoneAndFar() {
        is("itself", new CableForest().meet(0, 3, 3), 3);
        is("two trees", new CableForest().meet(0, 3, 2), -1);
        is("two trees on level 1", made("lay 0 1").meet(1, 0, 1), -1);
        CableForest x = made(path(16));
        is("from the far end", x.meet(0, 0, 15), 14);
        is("to the far end", x.meet(0, 15, 0), 14);
        is("the upper one", x.meet(0, 0, 13), 13);
        is("from the upper one", x.meet(0, 13, 0), 13);
    }

    // ---- 30: within

    static void p30_nodes() {
        nodeEdges("within", (x, n) -> x.within(n, 0));
    }

    static void p30_0To16() {
        CableForest x = made(path(16));
        edges("within", n -> x.within(0, n), 0, 16, IAE);
        busyLeaves("17", y -> y.within(0, 17), IAE);
        busyLeaves("-1", y -> y.within(0, -1), IAE);
        is("the exception told first", of(() -> x.within(16, 17)), IOOB);
    }

    static void p30_oneNodeAllAndAllButOne() {
        CableForest x = made(path(16));
        is("0", x.within(15, 0), 0x8000);
        is("1", x.within(15, 1), 0xC000);
        is("14", x.within(15, 14), 0xFFFE);
        is("15", x.within(15, 15), ALL);
        is("16", x.within(15, 16), ALL);
        is("alone", new CableForest().within(3, 16), 8);
    }

    // ---- 31: odds

    static void p31_nodes() {
        nodeEdges("odds", (x, n) -> x.odds(n, 0));
        nodeEdges("odds to", (x, n) -> x.odds(0, n));
    }

    static void p31_twelveCablesAndThirteen() {
        String twelve = "net 2;lay 0 1" + ",0 1".repeat(11);
        is("twelve", made(twelve).odds(0, 1), 4095);
        is("twelve, itself", made(twelve).odds(1, 1), 4096);
        is("thirteen", made(twelve + ",0 1").odds(0, 1), -1);
        is("thirteen, itself", made(twelve + ",0 1").odds(1, 1), -1);
        is("thirteen, one lifted", made(twelve + ",0 1;lift 0").odds(0, 1), 4095);
        is("sixty", made(SIXTY).odds(0, 1), -1);
        is("thirteen, not connected", made("net 3;lay 0 1" + ",0 1".repeat(12)).odds(0, 2), -1);
    }

    static void p31_noCable() {
        is("itself", new CableForest().odds(3, 3), 1);
        is("another", new CableForest().odds(3, 2), 0);
        is("one cable", made("lay 0 1").odds(0, 1), 1);
        is("one cable elsewhere", made("lay 0 1").odds(2, 2), 2);
        is("twelve in a row", made(path(13)).odds(0, 12), 1);
        is("twelve in a row, to 0", made(path(13)).odds(12, 0), 1);
        is("three of four sets to 0", made("net 3;lay 2 0,0 2").odds(2, 0), 3);
    }

    // ---- 32: fare

    static void p32_nodes() {
        nodeEdges("fare", (x, n) -> x.fare(n, 0));
        nodeEdges("fare to", (x, n) -> x.fare(0, n));
    }

    static void p32_itselfNoneAndTheDearest() {
        is("itself", new CableForest().fare(3, 3), 0);
        is("none", new CableForest().fare(3, 2), -1);
        CableForest x = made(path(16));
        for (int cable = 0; cable < 15; cable++) {
            x.cost(cable, 99);
        }
        is("the dearest", x.fare(15, 0), 15 * 99);
        x.lay(0, 15);
        x.cost(15, 0);
        is("for nothing", x.fare(0, 15), 0);
        x.cost(15, 99);
        is("one of 99", x.fare(0, 15), 99);
    }

    static void p32_manyCheapAheadOfOneDear() {
        CableForest x = made(path(16) + ",0 15;cost 15 16");
        is("15 against 16", x.fare(0, 15), 15);
        x.cost(15, 14);
        is("15 against 14", x.fare(0, 15), 14);
    }

    // ---- 33: named

    static void p33_namesThatAreAndAreNot() {
        CableForest x = made("net 16");
        is("0", x.named(0), 0);
        is("15", x.named(15), 15);
        is("16", x.named(16), -1);
        is("-1", x.named(-1), -1);
        is("least", x.named(Integer.MIN_VALUE), -1);
        is("most", x.named(Integer.MAX_VALUE), -1);
        CableForest y = made("net 16;net 15");
        is("14", y.named(14), 14);
        is("15 was a node's", y.named(15), -1);
    }

    static void p33_theLeastNodeOfIt() {
        CableForest x = made("lay 3 2,0 3");
        is("of three", x.named(2), 0);
        is("free", x.named(3), -1);
        is("free", x.named(0), -1);
        is("of one", x.named(1), 1);
    }

    // ---- 34: log

    static void p34_rowsThatAreAndAreNot() {
        CableForest x = busy();
        int rows = x.count(17);
        is("row -1", x.log(-1, 0), -1);
        is("the first", x.log(0, 1), 0);
        is("the last", x.log(rows - 1, 0), 9);
        is("behind the last", x.log(rows, 0), -1);
        is("least", x.log(Integer.MIN_VALUE, 2), -1);
        is("most", x.log(Integer.MAX_VALUE, 2), -1);
        is("ahead of all", new CableForest().log(0, 0), -1);
    }

    static void p34_whats() {
        whatEdges("log", (x, w) -> x.log(0, w), 2);
        is("another what of no row", of(() -> new CableForest().log(0, 3)), NSE);
        is("another what of no row", of(() -> new CableForest().log(-1, -1)), NSE);
    }

    static void p34_fortyRowsAndOneMore() {
        CableForest x = new CableForest();
        for (int i = 0; i < 40; i++) {
            x.lay(0, 1);
        }
        is("rows", x.count(17), 40);
        is("the eldest", x.log(0, 0) * 10 + x.log(0, 1), 0);
        is("the latest", x.log(39, 0), 39);
        is("behind it", x.log(40, 0), -1);
        x.lay(0, 1);
        is("rows", x.count(17), 40);
        is("the eldest", x.log(0, 0) * 10 + x.log(0, 1), 11);
        is("the latest", x.log(39, 0), 40);
        is("behind it", x.log(40, 0), -1);
        x.undo();
        is("the eldest again", x.log(0, 0) * 10 + x.log(0, 1), 0);
        is("the latest again", x.log(39, 0), 39);
    }

    static void p34_aHundredRows() {
        CableForest x = made(SIXTY);
        for (int cable = 59; cable >= 20; cable--) {
            x.lift(cable);
        }
        is("the eldest", x.log(0, 0) * 10 + x.log(0, 1), 592);
        is("the latest", x.log(39, 0) * 10 + x.log(39, 1), 202);
        x.net(2);
        is("since net", x.count(17), 0);
        is("since net", x.log(0, 0), -1);
        x.lay(0, 1);
        is("one row", x.log(0, 0), 0);
        is("one row", x.log(1, 0), -1);
    }

    static void p34_fortyRowsOfOneTextAndAnImageOfThem() {
        CableForest x = made(SIXTY);
        x.image();
        x.lift(0);
        is("lifted", x.log(39, 1), 5);
        for (int round = 0; round < 3; round++) {
            if (round == 1) {
                x.undo();
            } else if (round == 2) {
                x.back();
            }
            for (int k = 0; k < 40; k++) {
                int[] due = round == 0 && k == 38 ? new int[] {0, 3} : round == 0 && k == 39 ? new int[] {1, 5}
                        : new int[] {20 + k + (round == 0 ? 2 : 0), 1};
                is("cable of row " + k, x.log(k, 0), due[0]);
                is("what of row " + k, x.log(k, 1), due[1]);
                is("level of row " + k, x.log(k, 2), 0);
            }
        }
    }

    static void p34_eachKindOfRow() {
        CableForest x = made("net 5;lay 0 1,0 1,1 2,2 3,3 4,1 3;lift 2,0,1");
        int[][] rows = {{0, 0, 0}, {1, 1, 0}, {2, 0, 0}, {3, 0, 0}, {4, 0, 0}, {5, 1, 0}, {2, 3, 0}, {0, 4, 1},
            {1, 4, 1}, {5, 5, 0}, {0, 3, 1}, {1, 5, 1}, {1, 3, 1}};
        is("rows", x.count(17), rows.length);
        for (int k = 0; k < rows.length; k++) {
            for (int what = 0; what < 3; what++) {
                is("row " + k + ", " + what, x.log(k, what), rows[k][what]);
            }
        }
        is("lifted being spare", made("lay 0 1,0 1;lift 1").log(2, 1), 2);
    }

    // ---- 35: hinges

    static void p35_noneOneAndFourteen() {
        is("no cable", new CableForest().hinges(), 0);
        is("two nodes", made("net 2;lay 0 1").hinges(), 0);
        is("three nodes", made("net 3;lay 0 1,1 2").hinges(), 2);
        is("a circle of three", made("net 3;lay 0 1,1 2,2 0").hinges(), 0);
        is("a path of sixteen", made(path(16)).hinges(), 0x7FFE);
        is("the first node", made("net 16;lay 15 0,0 7").hinges(), 1);
        is("the last node", made("net 16;lay 0 15,15 7").hinges(), 0x8000);
        is("a circle of sixteen", made(path(16) + ",15 0").hinges(), 0);
        is("cables two by two", made("net 3;lay 0 1,0 1,1 2,1 2").hinges(), 2);
        is("a circle with one lifted", made("net 3;lay 0 1,1 2,2 0;lift 0").hinges(), 4);
    }

    // ---- 36: cut

    static void p36_nodes() {
        nodeEdges("cut", (x, n) -> x.cut(n, 0));
        nodeEdges("cut from", (x, n) -> x.cut(0, n));
    }

    static void p36_ofOneNodeNoneAndSixty() {
        is("one node", new CableForest().cut(3, 3), 99);
        is("one node among sixty cables", made(SIXTY).cut(1, 1), 99);
        is("no such node twice", of(() -> new CableForest().cut(4, 4)), IOOB);
        is("not connected", new CableForest().cut(3, 2), 0);
        is("sixty", made(SIXTY).cut(0, 1), 60);
        is("fifty-nine", made(SIXTY + ";lift 30").cut(1, 0), 59);
        is("a path", made(path(16)).cut(0, 15), 1);
        is("a circle", made(path(16) + ",15 0").cut(0, 8), 2);
    }

    static void p36_oneBehindTheOther() {
        CableForest x = made(SIXTY);
        is("sixty", x.cut(0, 1), 60);
        is("sixty again", x.cut(0, 1), 60);
        is("the other way", x.cut(1, 0), 60);
        x.net(4);
        is("none", x.cut(0, 1), 0);
    }

    static void p36_notConnectedBehindOneThatIs() {
        CableForest x = made("net 6;lay 3 4,4 5,0 1");
        is("of three nodes", x.cut(3, 5), 1);
        is("from three to one", x.cut(3, 2), 0);
        is("from two to three", x.cut(0, 5), 0);
        is("from one to three", x.cut(2, 4), 0);
    }

    static void p36_aWayMustBeGivenUpAgain() {
        // The shortest way takes 2-3; for two ways it must go.
        is("cut", made("net 8;lay 0 2,2 3,3 1,2 4,4 5,5 1,0 6,6 7,7 3").cut(0, 1), 2);
    }

    static void p36_aCableGivenUpIsTakenAgain() {
        // Both nodes have three cables; a cable between them is taken, given up, and taken the other way.
        CableForest x = made("net 8;lay 1 5,5 1,2 0,7 5,7 5,4 3,7 3,0 1,3 2,4 0,3 1");
        is("cut", x.cut(0, 7), 3);
        is("cut from the other side", x.cut(7, 0), 3);
        CableForest y = made("net 6;lay 0 3,3 2,4 0,1 4,4 0,1 3,1 4,1 0,1 5,5 1,2 5,2 5,3 2");
        is("cut of four", y.cut(0, 5), 4);
        is("cut of four from the other side", y.cut(5, 0), 4);
    }

    // ---- 37: image

    static void p37_changesNothingButTheImage() {
        CableForest x = new CableForest();
        x.lay(0, 1);
        x.image();
        is("remembered", x.count(14), 1);
        is("undo", x.undo(), 0);
        is("why", x.why(), 0);
        leaves("a second image of the same", () -> {
            CableForest y = busy();
            y.image();
            return y;
        }, CableForest::image);
    }

    static void p37_oneImageTheLatest() {
        CableForest x = new CableForest();
        x.image();
        x.net(5);
        x.image();
        x.net(6);
        is("back", x.back(), true);
        is("nodes", x.count(0), 5);
    }

    static void p37_ofANewObject() {
        CableForest x = new CableForest();
        x.image();
        x.net(16);
        x.lay(0, 15);
        is("back", x.back(), true);
        is("nodes", x.count(0), 4);
        is("cables", x.count(2), 0);
    }

    // ---- 38: back

    static void p38_noneWasKept() {
        leaves("back", () -> made("net 3;lay 0 1"), x -> is("back", x.back(), false));
        CableForest x = new CableForest();
        x.lay(0, 1);
        is("back", x.back(), false);
        is("remembered", x.count(14), 1);
    }

    static void p38_allButTapeFaultWhyAndImage() {
        CableForest x = busy();
        of(() -> x.lift(33));
        acts(x, "lay 0 2;tidy;lift 5");
        x.end(0);
        acts(x, "tidy,");
        Tapes.put(x, "net 9");
        is("back", x.back(), true);
        is("why", x.why(), 4);
        is("fault", x.fault(), 4);
        is("tape", x.end(6), false);
        is("tape", x.end(5), true);
        is("cables", x.count(2), 8);
        is("acts", of(x::acts), 1);
        is("back again", x.back(), true);
        is("nodes", x.count(0), 8);
    }

    static void p38_noneIsRemembered() {
        CableForest x = busy();
        is("back", x.back(), true);
        is("remembered", x.count(14), 0);
        is("undo", of(x::undo), ISE);
    }

    static void p38_twiceAndAfterMore() {
        CableForest x = busy();
        x.back();
        leaves("back", () -> {
            CableForest y = busy();
            y.back();
            return y;
        }, y -> {
            y.fail(0);
            y.tidy();
            is("back", y.back(), true);
        }, "why");
        is("costs", x.cable(2, 5), 9);
        is("costs", x.cable(0, 5), 1);
    }

    // ---- 39: count

    static void p39_whats() {
        CableForest x = busy();
        int[] due = {8, 3, 10, 8, 6, 2, 2, 4, 1, 3, 4, 5, 1, 2, 4, 6, 14, 17};
        for (int what = 0; what < due.length; what++) {
            is("count " + what, x.count(what), due[what]);
        }
        busyLeaves("18", y -> y.count(18), -1);
        busyLeaves("-1", y -> y.count(-1), -1);
        busyLeaves("least", y -> y.count(Integer.MIN_VALUE), -1);
        busyLeaves("most", y -> y.count(Integer.MAX_VALUE), -1);
    }

    static void p39_sixtyCables() {
        CableForest x = made(SIXTY);
        int[] due = {2, 1, 60, 60, 1, 59, 1, 0, 0, 0, 1, 60, 1770, 0, 0, -1, 1, 40};
        for (int what = 0; what < due.length; what++) {
            is("count " + what, x.count(what), due[what]);
        }
    }

    static void p39_allLifted() {
        CableForest x = made(SIXTY + ";fail 0");
        int[] due = {2, 1, 60, 0, 0, 0, 2, 0, 59, 0, 0, 0, 0, -1, 0, -1, 0, 40};
        for (int what = 0; what < due.length; what++) {
            is("count " + what, x.count(what), due[what]);
        }
    }

    static void p39_aPathOfSixteen() {
        CableForest x = made(path(16));
        int[] due = {16, 4, 15, 15, 15, 0, 1, 0, 0, 15, 15, 0, 0, 0, 0, 7, 15, 15};
        for (int what = 0; what < due.length; what++) {
            is("count " + what, x.count(what), due[what]);
        }
    }

    static void p39_keyOfSeveralTheLeast() {
        is("of two like ones", made("net 4;lay 2 3,0 1").count(15), 0);
        is("of a path of three", made("net 3;lay 0 1,1 2").count(15), 0);
        is("of a path of four", made("net 4;lay 0 1,1 2,2 3").count(15), 1);
        is("in a circle", made("net 3;lay 0 1,1 2,2 0").count(15), -1);
    }

    static void p39_ringOfTwoAndDoubleOfThree() {
        is("ring of one", made("lay 0 1").count(11), 0);
        is("ring of two", made("lay 0 1,1 0").count(11), 2);
        is("double of two", made("lay 0 1,1 0").count(12), 1);
        is("double of three", made("lay 0 1,1 0,0 1").count(12), 3);
        is("double with one lifted", made("lay 0 1,1 0,0 1;lift 0").count(12), 1);
        is("a ring hung on a bridge", made("lay 0 1,1 2,2 3,3 1").count(11), 3);
    }

    static void p39_widthIsTheGreatestOfAllTrees() {
        CableForest x = made("net 8;lay 0 1,2 3,3 4,4 5");
        is("width", x.count(10), 3);
        x.lay(2, 5);
        is("in a circle", x.count(10), 2);
    }

    static void p39_cheapestOf0And99() {
        CableForest x = made("lay 0 1,1 2,2 0,0 1;cost 0 99;cost 1 0;cost 2 98;cost 3 99");
        is("cheapest", x.count(16), 98);
        x.lift(2);
        is("cheapest", x.count(16), 99);
        is("no cable", new CableForest().count(16), 0);
        is("two parts", made("lay 0 1,2 3;cost 0 99;cost 1 99").count(16), 198);
        is("three parts of two", made("net 6;lay 4 5,2 3,0 1;cost 0 9;cost 1 8;cost 2 7").count(16), 24);
        is("the first node alone", made("net 3;lay 1 2;cost 0 5").count(16), 5);
    }
}
