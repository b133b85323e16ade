/** The boundary cases of the acts, and of what takes them back, each by its promise's number. */
public final class Bounds07To15Test extends Checks {
    private static final String SIXTY = "net 2;lay 0 1" + ",0 1".repeat(59);
    // Lifting 2 makes 0 and the spare 1 rise to level 1; 5 comes in place.
    private static final String RISING = "net 5;lay 0 1,0 1,1 2,2 3,3 4,1 3;lift 2";

    public static void main(String[] args) {
        runPromises(Bounds07To15Test.class, 7, 15);
    }

    // ---- 7: net

    static void p07_twoToSixteenNodes() {
        CableForest x = new CableForest();
        edges("net", x::net, 2, 16, IAE);
        is("net 0", of(() -> x.net(0)), IAE);
        is("nodes", x.count(0), 16);
        x.net(2);
        is("nodes", x.count(0), 2);
    }

    static void p07_outsideNothingHappens() {
        busyLeaves("net 1", x -> x.net(1), IAE);
        busyLeaves("net 17", x -> x.net(17), IAE);
        busyLeaves("net -8", x -> x.net(-8), IAE);
    }

    static void p07_heightAtEachPowerOfTwo() {
        int[][] due = {{2, 1}, {3, 1}, {4, 2}, {7, 2}, {8, 3}, {15, 3}, {16, 4}};
        for (int[] pair : due) {
            CableForest x = new CableForest();
            is("net " + pair[0], x.net(pair[0]), pair[1]);
            is("height of " + pair[0], x.count(1), pair[1]);
            is("height of " + pair[0] + " in a text", made("net " + pair[0]).count(1), pair[1]);
        }
    }

    static void p07_allBeginsAnew() {
        CableForest x = busy();
        x.net(8);
        int[] due = {8, 3, 0, 0, 0, 0, 8, 0, 0, 0, 0, 0, 0, -1, 0, -1, 0, 0};
        for (int what = 0; what < due.length; what++) {
            is("count " + what, x.count(what), due[what]);
        }
        is("cable 0", of(() -> x.cable(0, 0)), IOOB);
        is("row 0", x.log(0, 0), -1);
        for (int node = 0; node < 8; node++) {
            is("name", x.node(node, 0), node);
            isTour(x, 0, node, String.valueOf(node));
            isTour(x, 1, node, String.valueOf(node));
        }
        is("undo", of(x::undo), ISE);
    }

    static void p07_eachNameIsItsNumberAgain() {
        // 0 and 15 bear the names 1 and 13 ahead of it.
        CableForest x = made("net 16;lay 1 2,0 1,14 13,12 13,13 15");
        is("name of 0", x.node(0, 0), 1);
        is("name of 15", x.node(15, 0), 13);
        x.net(16);
        is("name of 0", x.node(0, 0), 0);
        is("name of 15", x.node(15, 0), 15);
        is("in a text", made("net 16;lay 1 2,0 1;net 3").node(0, 0), 0);
    }

    static void p07_nothingIsAnsweredByWhatWasAheadOfIt() {
        leaves("net behind much else", () -> made("net 8"), x -> {
            acts(x, path(8) + ",0 7,1 3,2 4;lift 3,1;cost 0 9;cost 7 5");
            x.net(8);
        });
        leaves("undo behind much else", () -> made("net 8"), x -> {
            x.lay(0, 1);
            x.cost(0, 9);
            x.undo();
            x.undo();
        });
    }

    static void p07_aNewCable0HasNothingOfTheOldOne() {
        CableForest x = busy();
        is("rose", x.cable(0, 4), 2);
        x.net(8);
        is("lay", x.lay(5, 6), 0);
        int[] due = {5, 6, 0, 0, 0, 1, 1};
        for (int what = 0; what < due.length; what++) {
            is("cable 0, " + what, x.cable(0, what), due[what]);
        }
    }

    static void p07_tapeFaultAndImageStay() {
        CableForest x = busy();
        x.net(3);
        is("fault", x.fault(), 0);
        is("tape", x.end(19), true);
        is("back", x.back(), true);
        is("nodes", x.count(0), 8);
    }

    static void p07_sixtyMoreSinceNet() {
        CableForest x = made(SIXTY);
        is("full", of(() -> x.lay(0, 1)), ISE);
        x.net(2);
        for (int cable = 0; cable < 60; cable++) {
            is("lay", x.lay(0, 1), cable);
        }
        is("full", of(() -> x.lay(0, 1)), ISE);
    }

    // ---- 8: lay

    static void p08_refusedBy1AnEndIsNoNode() {
        refused("lay 8 0", x -> x.lay(8, 0), 1);
        refused("lay 0 8", x -> x.lay(0, 8), 1);
        refused("lay -1 0", x -> x.lay(-1, 0), 1);
        refused("lay 0 -1", x -> x.lay(0, -1), 1);
        refused("lay least", x -> x.lay(Integer.MIN_VALUE, 0), 1);
        refused("lay most", x -> x.lay(0, Integer.MAX_VALUE), 1);
        busyLeaves("lay 7 0 and undo", x -> x.lay(7, 0) + x.undo() - 4, 10, "why");
    }

    static void p08_refusedBy2BothAreOne() {
        refused("lay 0 0", x -> x.lay(0, 0), 2);
        refused("lay 7 7", x -> x.lay(7, 7), 2);
    }

    static void p08_refusedBy3ThereWere60() {
        CableForest x = new CableForest();
        for (int cable = 0; cable < 60; cable++) {
            is("lay", x.lay(cable % 4, (cable + 1) % 4), cable);
        }
        leaves("the 61st", () -> made(SIXTY), y -> is("lay", of(() -> y.lay(0, 1)), ISE), "why");
        is("the 61st", of(() -> x.lay(0, 1)), ISE);
        is("why", x.why(), 3);
        is("laid", x.count(2), 60);
    }

    static void p08_liftedOnesCountAmongThe60() {
        CableForest x = made(SIXTY);
        x.lift(59);
        is("lay", of(() -> x.lay(0, 1)), ISE);
        is("why", x.why(), 3);
        CableForest y = made(SIXTY.substring(0, SIXTY.length() - 4));
        y.lift(58);
        is("lay", y.lay(0, 1), 59);
    }

    static void p08_theRefusalToldFirst() {
        refused("lay 8 8", x -> x.lay(8, 8), 1);
        refused("lay -1 -1", x -> x.lay(-1, -1), 1);
        CableForest x = made(SIXTY);
        of(() -> x.lay(0, 2));
        is("1 ahead of 3", x.why(), 1);
        of(() -> x.lay(1, 1));
        is("2 ahead of 3", x.why(), 2);
    }

    static void p08_aNodeThatANetAheadHad() {
        CableForest x = made("net 16;net 15");
        is("lay", of(() -> x.lay(0, 15)), ISE);
        is("lay", x.lay(0, 14), 0);
    }

    static void p08_treeOrSpareAndSeveralOfTheSameEnds() {
        CableForest x = new CableForest();
        is("lay", x.lay(0, 1), 0);
        is("lay", x.lay(1, 0), 1);
        is("lay", x.lay(0, 1), 2);
        is("tree", x.cable(0, 2), 0);
        is("spare", x.cable(1, 2), 1);
        is("spare", x.cable(2, 2), 1);
        is("first end", x.cable(1, 0), 1);
        is("second end", x.cable(1, 1), 0);
        is("level", x.cable(2, 3), 0);
        is("cost", x.cable(2, 5), 1);
        isTour(x, 0, 0, "0 100 1 200");
    }

    static void p08_nameOfLikeOnesTheLesser() {
        CableForest x = new CableForest();
        x.lay(3, 2);
        is("of 3 and 2", x.node(3, 0), 2);
        x.lay(1, 0);
        is("of 1 and 0", x.node(1, 0), 0);
        x.lay(3, 1);
        is("of two and two", x.node(2, 0), 0);
        is("2 is free", x.named(2), -1);
    }

    static void p08_nameOfTheOneOfMoreNodes() {
        CableForest x = new CableForest();
        x.lay(3, 2);
        x.lay(0, 3);
        is("of one and two", x.node(0, 0), 2);
        x.lay(2, 1);
        is("of three and one", x.node(1, 0), 2);
        CableForest y = new CableForest();
        y.lay(3, 2);
        y.lay(3, 1);
        is("of two and one", y.node(1, 0), 2);
    }

    static void p08_toursAreTurnedToTheEnds() {
        CableForest x = new CableForest();
        x.lay(0, 1);
        x.lay(2, 3);
        // 0-1 is turned to 1, 2-3 to 3; the first bracket of each opens.
        x.lay(1, 3);
        isTour(x, 0, 0, "1 100 0 200 102 3 101 2 201 202");
    }

    // ---- 9: lift

    static void p09_refusedBy4ThereIsNoSuchCable() {
        refused("lift 10", x -> x.lift(10), 4);
        refused("lift -1", x -> x.lift(-1), 4);
        refused("lift least", x -> x.lift(Integer.MIN_VALUE), 4);
        refused("lift most", x -> x.lift(Integer.MAX_VALUE), 4);
        refused("lift 60", x -> x.lift(60), 4);
        CableForest x = busy();
        is("lift 9", x.lift(9), -1);
        is("lift 0", x.lift(0), 8);
        CableForest y = made(SIXTY);
        is("lift 59", y.lift(59), -1);
        is("lift 60", of(() -> y.lift(60)), ISE);
        is("lift 0", of(() -> new CableForest().lift(0)), ISE);
    }

    static void p09_refusedBy4ItIsLifted() {
        refused("lift 1", x -> x.lift(1), 4);
        refused("lift 3", x -> x.lift(3), 4);
    }

    static void p09_aSpareOneChangesNoTree() {
        CableForest x = made("lay 0 1,1 2,2 0");
        is("lift", x.lift(2), -1);
        is("trees", x.count(6), 2);
        is("looked", x.count(8), 0);
        is("row", x.log(3, 1), 2);
        isTour(x, 0, 0, "1 100 0 200 101 2 201");
    }

    static void p09_smallIsOfLikeOnesThatOfTheFirstEnd() {
        CableForest x = made("net 4;lay 0 1,2 3,2 1,0 3;lift 2");
        is("the first end's part rose", x.cable(1, 3), 1);
        is("the other did not", x.cable(0, 3), 0);
        x = made("net 4;lay 0 1,2 3,1 2,0 3;lift 2");
        is("the first end's part rose", x.cable(0, 3), 1);
        is("the other did not", x.cable(1, 3), 0);
    }

    static void p09_smallIsTheOneOfFewerNodes() {
        for (String across : new String[] {"2 1", "1 2"}) {
            CableForest x = made("net 5;lay 0 1,2 3,3 4," + across + ",0 3;lift 3");
            is("two of five rose", x.cable(0, 3), 1);
            is("three did not", x.cable(1, 3), 0);
            is("three did not", x.cable(2, 3), 0);
        }
    }

    static void p09_sparesAreLookedAtByNumbersUntilOneComes() {
        // Small is {0, 1}: 4 leads out of it; 5, inside of it, and 6 stand behind.
        CableForest x = made("net 5;lay 0 1,1 2,2 3,3 4,1 3,0 1,0 4");
        is("lift", x.lift(1), 4);
        is("looked", x.count(8), 1);
        is("5 did not rise", x.cable(5, 3), 0);
        is("6 is spare", x.cable(6, 2), 1);
        // The inside one stands ahead.
        CableForest y = made("net 5;lay 0 1,1 2,2 3,3 4,0 1,1 3,0 4");
        is("lift", y.lift(1), 5);
        is("looked", y.count(8), 2);
        is("4 rose", y.cable(4, 3), 1);
        is("risen", y.count(7), 2);
    }

    static void p09_sparesOutsideOfSmallAreNotLookedAt() {
        CableForest x = made("net 5;lay 0 1,1 2,2 3,3 4,2 4,3 2");
        is("lift", x.lift(1), -1);
        is("looked", x.count(8), 0);
        is("risen", x.count(7), 1);
    }

    static void p09_whatComesInPlaceOnALowerLevelJoinsNoHigherOne() {
        CableForest x = made(path(8) + ",0 7,1 3;lift 3");
        is("level", x.cable(1, 3), 1);
        is("lift", x.lift(1), 8);
        is("its level", x.cable(8, 3), 0);
        is("on level 0", x.part(0, 0), 255);
        is("on level 1", x.part(1, 0), 3);
        is("on level 1", x.part(1, 2), 12);
        is("row", x.log(x.count(17) - 1, 2), 0);
    }

    static void p09_halvesOfHalvesRiseToTheLevelBelowHeight() {
        for (int many : new int[] {2, 3, 4, 7, 8, 15, 16}) {
            CableForest x = made(path(many));
            for (int cut = many / 2 - 1; cut >= 1; cut = (cut + 1) / 2 - 1) {
                is("lift", x.lift(cut), -1);
            }
            int height = x.count(1);
            is("greatest level of " + many, x.count(13), height - 1);
            is("its cable", x.cable(0, 3), height - 1);
            x.lift(0);
            is("greatest tree on height of " + many, x.level(height, 3), 1);
            is("how often it rose", x.cable(0, 4), height - 1);
        }
    }

    static void p09_nameOfLikeOnesThatOfTheFirstEnd() {
        CableForest x = made("net 2;lay 1 0;lift 0");
        is("the first end keeps it", x.node(1, 0), 0);
        is("the other has the least free one", x.node(0, 0), 1);
        x = made("net 2;lay 0 1;lift 0");
        is("the first end keeps it", x.node(0, 0), 0);
        is("the other has the least free one", x.node(1, 0), 1);
    }

    static void p09_nameOfTheOneOfMoreNodes() {
        CableForest x = made("net 3;lay 0 1,1 2;lift 0");
        is("two keep it", x.node(1, 0), 0);
        is("one has the least free one", x.node(0, 0), 1);
        x = made("net 3;lay 0 1,1 2;lift 1");
        is("two keep it", x.node(1, 0), 0);
        is("one has the least free one", x.node(2, 0), 1);
    }

    static void p09_nameGoesByTheNodesOnLevel0() {
        // {3, 4} rises whole and is the greater one on level 1, but not on level 0.
        CableForest x = made("net 5;lay 0 1,1 2,2 3,3 4;lift 2");
        is("on level 1", x.part(1, 3), 24);
        is("three keep it", x.node(2, 0), 0);
        is("two have the least free one", x.node(3, 0), 1);
        x = made("net 5;lay 4 3,3 2,2 1,1 0;cost 0 2;lift 1");
        is("three keep it", x.node(2, 0), 3);
        is("two have the least free one", x.node(3, 0), 0);
    }

    static void p09_theLeastNumberThatNoTreeHas() {
        // {1, 2} took 0 in and kept the name 1, so 0 is free.
        CableForest x = made("net 4;lay 1 2,0 1;lift 1");
        is("0 was free", x.node(0, 0), 0);
        is("1 is kept", x.node(1, 0), 1);
        // All but 15 are taken.
        CableForest y = made("net 16;lay 15 14;lift 0");
        is("14 is kept", y.node(15, 0), 14);
        is("15 was free", y.node(14, 0), 15);
    }

    static void p09_namesStayIfOneComesInPlace() {
        CableForest x = made("net 4;lay 2 3,3 1,1 2;lift 0");
        is("trees", x.count(6), 2);
        is("name", x.node(1, 0), 2);
        is("name", x.node(2, 0), 2);
        is("name", x.node(0, 0), 0);
    }

    static void p09_splitOfWhatIsInsideAndOutside() {
        CableForest x = made("net 4;lay 0 1,1 2,2 3");
        isTour(x, 0, 0, "2 101 1 100 0 200 201 102 3 202");
        x.lift(1);
        isTour(x, 0, 0, "1 100 0 200");
        isTour(x, 0, 3, "2 102 3 202");
        is("trees", x.count(6), 2);
    }

    static void p09_otherTreesStayAsTheyAre() {
        for (int cable = 0; cable < 3; cable++) {
            CableForest x = made("net 7;lay 0 1,2 3,4 5");
            x.lift(cable);
            for (int node = 0; node < 6; node++) {
                int first = node / 2 * 2;
                isTour(x, 0, node, node / 2 == cable ? String.valueOf(node)
                        : first + " " + (100 + node / 2) + " " + (first + 1) + " " + (200 + node / 2));
            }
            isTour(x, 0, 6, "6");
            is("trees", x.count(6), 5);
        }
    }

    // ---- 10: cost

    static void p10_costs0To99() {
        CableForest x = made("lay 0 1");
        edges("cost", c -> x.cost(0, c), 0, 99, IAE);
        is("what it was", x.cost(0, 0), 99);
        is("what it was", x.cost(0, 5), 0);
        is("cost", x.cable(0, 5), 5);
        is("1 at first", made("lay 0 1").cost(0, 9), 1);
    }

    static void p10_outsideNothingHappens() {
        busyLeaves("cost 100", x -> x.cost(0, 100), IAE);
        busyLeaves("cost -1", x -> x.cost(0, -1), IAE);
    }

    static void p10_refusedBy4() {
        refused("cost of 10", x -> x.cost(10, 0), 4);
        refused("cost of -1", x -> x.cost(-1, 99), 4);
        refused("cost of 60", x -> x.cost(60, 1), 4);
        refused("cost of a lifted one", x -> x.cost(3, 1), 4);
        busyLeaves("cost of 9 and undo", x -> x.cost(9, 99) + x.undo(), 5, "why");
    }

    static void p10_theExceptionToldFirst() {
        busyLeaves("no cost of no cable", x -> x.cost(10, 100), IAE);
        busyLeaves("no cost of a lifted one", x -> x.cost(3, -1), IAE);
    }

    static void p10_ofASpareOneToo() {
        CableForest x = made("lay 0 1,0 1");
        is("cost", x.cost(1, 99), 1);
        is("cost", x.cable(1, 5), 99);
    }

    // ---- 11: tries

    static void p11_noTextTellsTheTreesThatThereAre() {
        CableForest x = busyWith("");
        is("tries", of(x::tries), 2);
        leaves("tries", () -> busyWith(""), y -> of(y::tries), "fault");
        is("at first", of(() -> new CableForest().tries()), 4);
    }

    static void p11_oneTreeAndSixteen() {
        CableForest x = new CableForest();
        is("sixteen", tries(x, "net 16"), 16);
        is("one", tries(x, "net 2;lay 0 1"), 1);
        is("nodes", x.count(0), 4);
    }

    static void p11_nothingStays() {
        String text = "lay 2 4;tidy;cost 0 3;fail 6;lift 0";
        CableForest x = busyWith(text);
        is("tries", of(x::tries), 3);
        leaves("tries", () -> busyWith(text), y -> of(y::tries), "tape", "tape read", "fault");
        is("fault", x.fault(), -1);
        is("remembered", x.count(14), 4);
    }

    static void p11_netAsideForgetsNothing() {
        leaves("tries", () -> busyWith("net 2"), y -> is("tries", of(y::tries), 2), "tape", "tape read", "fault");
    }

    static void p11_fourteenActsAndFifteen() {
        CableForest x = new CableForest();
        is("14", tries(x, "tidy;".repeat(13) + "tidy"), 4);
        is("fault", x.fault(), -1);
        is("15", tries(x, "tidy;".repeat(14) + "tidy"), IAE);
        is("fault", x.fault(), 70);
    }

    static void p11_aWrongTextLeavesWhy() {
        wrongText("lift 10", 0, 4);
        wrongText("lay 0 1;;", 8, 0);
    }

    // ---- 12: swap

    static void p12_refusedBy5NotThere() {
        refused("swap -1 9", x -> x.swap(-1, 9), 5);
        refused("swap 4 -1", x -> x.swap(4, -1), 5);
        refused("swap 10 9", x -> x.swap(10, 9), 5);
        refused("swap 4 10", x -> x.swap(4, 10), 5);
        refused("swap 60 61", x -> x.swap(60, 61), 5);
        refused("swap most least", x -> x.swap(Integer.MAX_VALUE, Integer.MIN_VALUE), 5);
        refused("the first lifted", x -> x.swap(3, 9), 5);
        refused("the second lifted", x -> x.swap(4, 3), 5);
    }

    static void p12_refusedBy5NotTreeAndSpare() {
        refused("two tree ones", x -> x.swap(4, 5), 5);
        refused("two spare ones", x -> x.swap(8, 9), 5);
        refused("the first spare, the second tree", x -> x.swap(9, 4), 5);
        refused("one twice, tree", x -> x.swap(4, 4), 5);
        refused("one twice, spare", x -> x.swap(9, 9), 5);
    }

    static void p12_refusedBy5NotOnTheWay() {
        refused("beside the way", x -> x.swap(6, 9), 5);
        refused("of another tree", x -> x.swap(2, 9), 5);
    }

    static void p12_refusedBy5NotOfLevel0() {
        // 0 is of level 2, 8 lies beside it with level 0.
        refused("tree one of level 2", x -> x.swap(0, 8), 5);
        CableForest x = made(RISING);
        is("both of level 1", of(() -> x.swap(0, 1)), ISE);
        is("why", x.why(), 5);
        CableForest y = made(RISING + ";lay 0 1");
        is("the tree one of level 1", of(() -> y.swap(0, 6)), ISE);
        CableForest z = made(RISING + ";lay 0 1;tidy");
        is("all of level 0", z.swap(0, 6), 4);
    }

    static void p12_bothEndsOfTheWay() {
        for (int tree : new int[] {4, 5}) {
            CableForest x = busy();
            is("swap", x.swap(tree, 9), 6);
            is("spare now", x.cable(tree, 2), 1);
            is("tree now", x.cable(9, 2), 0);
            is("back again", x.swap(9, tree), 6);
            is("tree again", x.cable(tree, 2), 0);
        }
    }

    static void p12_noRowNoNameNoLook() {
        CableForest x = busy();
        int rows = x.count(17);
        int looked = x.count(8);
        x.swap(4, 9);
        is("rows", x.count(17), rows);
        is("looked", x.count(8), looked);
        is("name", x.node(5, 0), busy().node(5, 0));
        is("why", x.why(), 0);
    }

    // ---- 13: fail

    static void p13_refusedBy1ThereIsNoSuchNode() {
        refused("fail 8", x -> x.fail(8), 1);
        refused("fail -1", x -> x.fail(-1), 1);
        refused("fail least", x -> x.fail(Integer.MIN_VALUE), 1);
        refused("fail most", x -> x.fail(Integer.MAX_VALUE), 1);
        busyLeaves("fail 7 and undo", x -> x.fail(7) + x.undo(), 6, "why");
        busyLeaves("fail 0 and undo", x -> x.fail(0) + x.undo(), 7, "why");
    }

    static void p13_aNodeWithoutCables() {
        CableForest x = new CableForest();
        is("fail", x.fail(3), 0);
        is("it is remembered", x.count(14), 1);
        is("no row", x.count(17), 0);
        x.lay(3, 2);
        is("fail", x.fail(3), 1);
        is("lifted ones are not lifted again", x.fail(3), 0);
    }

    static void p13_sixtyCables() {
        CableForest x = made(SIXTY);
        is("fail", x.fail(1), 60);
        is("there", x.count(3), 0);
        is("remembered as one", x.count(14), 1);
        is("undo", x.undo(), 0);
        is("there", x.count(3), 60);
    }

    static void p13_oneByOneByNumbers() {
        // 0 goes, 2 comes in place; then 2 goes, being tree.
        CableForest x = made("net 4;lay 0 1,1 2,0 2");
        is("fail", x.fail(0), 2);
        int[][] rows = {{0, 3, 0}, {2, 5, 0}, {2, 3, 0}};
        for (int k = 0; k < 3; k++) {
            is("cable of row " + k, x.log(3 + k, 0), rows[k][0]);
            is("what of row " + k, x.log(3 + k, 1), rows[k][1]);
        }
    }

    // ---- 14: tidy

    static void p14_nothingToTidy() {
        CableForest x = new CableForest();
        is("tidy", x.tidy(), 0);
        is("it is remembered", x.count(14), 1);
        is("of what is tidy", made("lay 0 1,1 2,2 0").tidy(), 0);
    }

    static void p14_anotherLevelCounts() {
        CableForest x = made(RISING);
        is("tidy", x.tidy(), 2);
        is("level", x.count(13), 0);
        is("again", x.tidy(), 0);
    }

    static void p14_treeOrSpareCounts() {
        CableForest x = made("lay 0 1,0 1;swap 0 1");
        is("tidy", x.tidy(), 2);
        is("tree", x.cable(0, 2), 0);
        is("spare", x.cable(1, 2), 1);
    }

    static void p14_bothCountOnce() {
        CableForest x = made("net 5;lay 0 1,0 1,1 2,2 3,3 4,1 3;swap 0 1;lift 2");
        is("level of a spare one", x.cable(0, 3) * 10 + x.cable(0, 2), 11);
        is("level of a tree one", x.cable(1, 3) * 10 + x.cable(1, 2), 10);
        is("tidy", x.tidy(), 2);
        is("tree", x.cable(0, 2), 0);
    }

    static void p14_liftedOnesStayAsTheyWere() {
        CableForest x = made(RISING + ";lift 1");
        is("level", x.cable(1, 3), 1);
        x.tidy();
        is("level of a lifted one", x.cable(1, 3), 1);
        is("lifted", x.cable(1, 2), 2);
        is("it rose", x.cable(1, 4), 1);
    }

    static void p14_namesRowsAndRisenStay() {
        CableForest x = busy();
        int[] stay = {2, 3, 6, 7, 8, 17};
        int[] were = new int[stay.length];
        for (int i = 0; i < stay.length; i++) {
            were[i] = x.count(stay[i]);
        }
        int name = x.node(2, 0);
        x.tidy();
        for (int i = 0; i < stay.length; i++) {
            is("count " + stay[i], x.count(stay[i]), were[i]);
        }
        is("name", x.node(2, 0), name);
    }

    // ---- 15: undo

    static void p15_noneIsRemembered() {
        leaves("undo", CableForest::new, x -> is("undo", of(x::undo), ISE));
        CableForest x = new CableForest();
        x.lay(0, 1);
        is("undo", x.undo(), 0);
        is("undo", of(x::undo), ISE);
    }

    static void p15_eightAreRememberedAndNoNinth() {
        CableForest x = new CableForest();
        for (int i = 1; i <= 8; i++) {
            x.lay(0, 1);
            is("remembered", x.count(14), i);
        }
        x.lay(0, 1);
        is("remembered", x.count(14), 8);
        for (int left = 7; left >= 0; left--) {
            is("undo", x.undo(), left);
            is("laid", x.count(2), left + 1);
        }
        is("undo", of(x::undo), ISE);
        is("laid", x.count(2), 1);
    }

    static void p15_eightAgainAndAgain() {
        CableForest x = new CableForest();
        for (int i = 0; i < 30; i++) {
            x.lay(0, 1);
        }
        x.undo();
        x.undo();
        x.lay(1, 2);
        is("remembered", x.count(14), 7);
        for (int left = 6; left >= 0; left--) {
            x.undo();
            is("laid", x.count(2), 22 + left);
        }
        is("undo", of(x::undo), ISE);
    }

    static void p15_allIsAsAheadOfEachAct() {
        busyLeaves("lay", x -> x.lay(2, 5) + x.undo() - 4, 10, "why");
        busyLeaves("lift", x -> x.lift(7) + x.undo() - 4, -1, "why");
        busyLeaves("cost", x -> x.cost(2, 8) + x.undo() - 4, 9, "why");
        busyLeaves("swap", x -> x.swap(4, 9) + x.undo() - 4, 6, "why");
        busyLeaves("fail", x -> x.fail(1) + x.undo() - 4, 2, "why");
        busyLeaves("tidy", x -> x.tidy() + x.undo() - 4, 2, "why");
    }

    static void p15_whatForgetsAll() {
        CableForest x = busy();
        x.net(8);
        is("net", of(x::undo), ISE);
        CableForest y = busy();
        y.back();
        is("going back", of(y::undo), ISE);
        CableForest z = busyWith("tidy");
        of(z::acts);
        is("a right text", of(z::undo), ISE);
        CableForest w = busyWith("");
        of(w::acts);
        is("a right text without an act", of(w::undo), ISE);
    }

    static void p15_whatForgetsNothing() {
        CableForest x = busyWith("lay 0 1;");
        of(x::acts);
        is("a wrong text", x.count(14), 4);
        tries(x, "net 3");
        is("a tried text", x.count(14), 4);
        of(() -> x.lift(33));
        is("a refused act", x.count(14), 4);
        of(() -> x.net(1));
        is("no net", x.count(14), 4);
        x.image();
        is("an image", x.count(14), 4);
        is("undo", x.undo(), 3);
        is("what was laid last is not there", x.count(2), 9);
    }

    static void p15_goingBackThatCannotBeForgetsNothing() {
        CableForest x = new CableForest();
        x.lay(0, 1);
        is("back", x.back(), false);
        is("undo", x.undo(), 0);
    }

    static void p15_anUndoneActIsNotRememberedAgain() {
        CableForest x = new CableForest();
        x.lay(0, 1);
        x.lay(1, 2);
        x.undo();
        x.cost(0, 9);
        is("remembered", x.count(14), 2);
        x.undo();
        is("cost", x.cable(0, 5), 1);
        is("laid", x.count(2), 1);
        x.undo();
        is("laid", x.count(2), 0);
    }
}
