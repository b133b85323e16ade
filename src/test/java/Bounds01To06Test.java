/** The boundary cases of a new object, of the tape, of texts, of their faults and of WHY, each by its promise's number. */
public final class Bounds01To06Test extends Checks {
    private static final String FOURTEEN = "tidy;".repeat(13) + "tidy";
    private static final String SIXTY = "net 2;lay 0 1" + ",0 1".repeat(59);

    public static void main(String[] args) {
        runPromises(Bounds01To06Test.class, 1, 6);
    }

    // ---- 1: a new object

    static void p01_hasFourNodesAndNothingElse() {
        CableForest x = new CableForest();
        int[] due = {4, 2, 0, 0, 0, 0, 4, 0, 0, 0, 0, 0, 0, -1, 0, -1, 0, 0};
        for (int what = 0; what < due.length; what++) {
            is("count " + what, x.count(what), due[what]);
        }
        edges("node", n -> x.node(n, 0), 0, 3, IOOB);
        edges("level", l -> x.level(l, 0), 0, 2, IOOB);
        is("cable 0", of(() -> x.cable(0, 0)), IOOB);
        is("row 0", x.log(0, 0), -1);
        is("hinges", x.hinges(), 0);
    }

    static void p01_namesAndToursAreOfSingleNodes() {
        CableForest x = new CableForest();
        for (int node = 0; node < 4; node++) {
            is("name", x.node(node, 0), node);
            for (int level = 0; level <= 2; level++) {
                isTour(x, level, node, String.valueOf(node));
            }
        }
    }

    static void p01_hasNoTextNoMemoryNoImage() {
        CableForest x = new CableForest();
        is("fault", x.fault(), -1);
        is("why", x.why(), 0);
        is("end 0", x.end(0), true);
        is("end 1", x.end(1), false);
        is("undo", of(x::undo), ISE);
        is("back", x.back(), false);
        is("no text is right", of(x::acts), 0);
    }

    static void p01_isLikeNet4() {
        leaves("net 4", CableForest::new, x -> x.net(4));
    }

    static void p01_objectsShareNothing() {
        CableForest x = new CableForest();
        CableForest y = busy();
        x.net(2);
        is("nodes", y.count(0), 8);
        is("cables", x.count(2), 0);
        is("tape", x.end(1), false);
        is("image", x.back(), false);
    }

    static void p01_the512thCallIsAnsweredAsTheFirst() {
        CableForest x = new CableForest();
        x.net(16);
        int calls = 1;
        for (int cable = 0; cable < 60; cable++, calls++) {
            x.lay(cable % 16, (cable + 1 + cable / 16) % 16);
        }
        for (; calls < 510; calls += 2) {
            x.lift(calls % 60);
            is("undo", x.undo(), 7);
        }
        for (; calls < 511; calls++) {
            x.tidy();
        }
        is("the 512th call", x.lift(0), 15);
    }

    // ---- 2: feed

    static void p02_twentyTimesTwentyBytes() {
        CableForest x = new CableForest();
        for (int i = 1; i <= 20; i++) {
            is("feed", x.feed(0, 0, 0, 0, 0), 20 * i);
        }
        is("feed beyond 400", x.feed(0, 0, 0, 0, 0), -1);
        is("400 are there", x.end(400), true);
        is("no more", x.end(401), false);
    }

    static void p02_beyond400NoneCome() {
        String full = "tidy" + " ".repeat(396);
        leaves("feed", () -> busyWith(full), x -> is("feed", x.feed(-1, -1, -1, -1, -1), -1));
        CableForest x = busyWith(full);
        x.feed(0x78787878, 0x78787878, 0x78787878, 0x78787878, 0x78787878);
        is("the text is as it was", of(x::acts), 1);
    }

    static void p02_from380And381() {
        CableForest x = busyWith(" ".repeat(380));
        is("380 and 20", x.feed(0, 0, 0, 0, 0), 400);
        leaves("381 and 20", () -> busyWith(" ".repeat(381)), y -> is("feed", y.feed(0, 0, 0, 0, 0), -1));
        leaves("399 and 20", () -> busyWith(" ".repeat(399)), y -> is("feed", y.feed(0, 0, 0, 0, 0), -1));
    }

    static void p02_ofEachNumberTheHighestByteFirst() {
        CableForest x = new CableForest();
        // "net " "16;l" "ay 0" " 15," "1 2 "
        is("feed", x.feed(0x6e657420, 0x31363b6c, 0x61792030, 0x2031352c, 0x31203220), 20);
        is("acts", of(x::acts), 2);
        is("nodes", x.count(0), 16);
        is("end", x.cable(0, 1), 15);
        is("end", x.cable(1, 0), 1);
    }

    static void p02_bytesBehindThoseOfTheFeedAhead() {
        CableForest x = new CableForest();
        x.feed(0x20202020, 0x20202020, 0x20202020, 0x20202020, 0x6e657420);
        is("feed", x.feed(0x31352020, 0x20202020, 0x20202020, 0x20202020, 0x20202020), 40);
        is("acts", of(x::acts), 1);
        is("nodes", x.count(0), 15);
    }

    static void p02_bytesOf0And127And128And255() {
        for (int odd : new int[] {0, 127, 128, 255, 31, 33}) {
            CableForest x = new CableForest();
            x.feed(0x20202020, 0x20202000 | odd, odd << 24, 0x20202020, 0x20202020);
            is("byte " + odd, of(x::acts), IAE);
            is("fault of " + odd, x.fault(), 7);
        }
    }

    static void p02_theTapeIsEmptyBehindEachText() {
        CableForest x = new CableForest();
        acts(x, "tidy");
        is("right", x.feed(0, 0, 0, 0, 0), 20);
        is("wrong", of(x::acts), IAE);
        is("wrong", x.feed(0, 0, 0, 0, 0), 20);
        is("tried, wrong", of(x::tries), IAE);
        is("tried, wrong", x.feed(0, 0, 0, 0, 0), 20);
        x.end(0);
        is("tried, right", tries(x, " "), 4);
        is("tried, right", x.feed(0, 0, 0, 0, 0), 20);
    }

    // ---- 3: end

    static void p03_asManyAsItHasAndOneMore() {
        busyLeaves("end 19", x -> x.end(19) ? 1 : 0, 1);
        busyLeaves("end 20", x -> x.end(20) ? 1 : 0, 0);
        CableForest x = busy();
        is("end 18", x.end(18), true);
        is("end 19", x.end(19), false);
    }

    static void p03_below0NothingHappens() {
        busyLeaves("end -1", x -> x.end(-1) ? 1 : 0, 0);
        busyLeaves("end least", x -> x.end(Integer.MIN_VALUE) ? 1 : 0, 0);
        busyLeaves("end most", x -> x.end(Integer.MAX_VALUE) ? 1 : 0, 0);
    }

    static void p03_end0MakesItEmpty() {
        busyLeaves("end 0", x -> x.end(0) ? 1 : 0, 1, "tape", "tape read");
        CableForest x = busy();
        x.end(0);
        is("feed", x.feed(0, 0, 0, 0, 0), 20);
        x.end(0);
        is("acts", of(x::acts), 0);
    }

    static void p03_400And401() {
        CableForest x = busyWith(" ".repeat(400));
        is("end 401", x.end(401), false);
        is("end 400", x.end(400), true);
        is("end 399", x.end(399), true);
        is("end 400", x.end(400), false);
    }

    static void p03_whatIsCutOffIsGone() {
        CableForest x = new CableForest();
        x.feed(0x74696479, 0x3b787878, 0x78787878, 0x78787878, 0x78787878);
        x.end(5);
        is("feed", x.feed(0x74696479, 0x20202020, 0x20202020, 0x20202020, 0x20202020), 25);
        is("tidy;tidy", of(x::acts), 2);
    }

    // ---- 4: acts

    static void p04_noText() {
        rightText("", 0);
        rightText(" ", 0);
        rightText(" ".repeat(400), 0);
    }

    static void p04_netOf2To16() {
        is("nodes", rightText("net 2", 1).count(0), 2);
        is("nodes", rightText("net 16", 1).count(0), 16);
        is("nodes", rightText("net 02", 1).count(0), 2);
        wrongText("net 1", 4, 0);
        wrongText("net 17", 4, 0);
        wrongText("net 0", 4, 0);
        wrongText("net 99", 4, 0);
    }

    static void p04_endsOf0To15() {
        CableForest x = rightText("net 16;lay 0 15;lay 15 0", 3);
        is("end", x.cable(0, 1), 15);
        wrongText("net 16;lay 0 16", 13, 0);
        wrongText("net 16;lay 16 0", 11, 0);
        wrongText("net 16;lay 0 15,16 1", 16, 0);
        wrongText("net 16;lay 0 15,1 16", 18, 0);
    }

    static void p04_nodesOfFail0To15() {
        rightText("net 16;fail 15;fail 0", 3);
        wrongText("net 16;fail 16", 12, 0);
    }

    static void p04_cablesOf0To59() {
        is("there", rightText(SIXTY + ";lift 0,59", 3).count(3), 58);
        is("tree", rightText(SIXTY + ";swap 0 59", 3).cable(59, 2), 0);
        is("cost", rightText(SIXTY + ";cost 59 7", 3).cable(59, 5), 7);
        wrongText("lift 60", 5, 0);
        wrongText("lift 0,60", 7, 0);
        wrongText("swap 60 0", 5, 0);
        wrongText("swap 0 60", 7, 0);
        wrongText("cost 60 0", 5, 0);
    }

    static void p04_costOf0To99() {
        is("cost", rightText("lay 0 1;cost 0 0", 2).cable(0, 5), 0);
        is("cost", rightText("lay 0 1;cost 0 99", 2).cable(0, 5), 99);
        wrongText("cost 0 100", 7, 0);
    }

    static void p04_numbersOfOneAndTwoDigitsAndMore() {
        CableForest x = rightText("lay 00 01;lift 00;lay 3 02", 3);
        is("ends", x.cable(0, 0) * 100 + x.cable(0, 1), 1);
        is("ends", x.cable(1, 0) * 100 + x.cable(1, 1), 302);
        wrongText("lay 000 1", 4, 0);
        wrongText("lay 0 001", 6, 0);
        wrongText("net 016", 4, 0);
        wrongText("lift 000", 5, 0);
        wrongText("cost 0 099", 7, 0);
        wrongText("fail 000", 5, 0);
        wrongText("swap 0 000", 7, 0);
        wrongText("fail " + "0".repeat(395), 5, 0);
        wrongText("fail 4294967296", 5, 0);
    }

    static void p04_fourteenActsAndFifteen() {
        rightText(FOURTEEN, 14);
        wrongText(FOURTEEN + ";tidy", 70, 0);
        wrongText(FOURTEEN + " ; tidy", 72, 0);
        // Nothing of the one too many is read: it is its first word that cannot stand there.
        wrongText(FOURTEEN + ";lay 0 0", 70, 0);
        wrongText(FOURTEEN + ";tidx", 70, 0);
        wrongText(FOURTEEN + ";", 70, 0);
        wrongText(FOURTEEN + "; ", 71, 0);
        // What an act tells several times is one act.
        is("laid", rightText("lay 0 1,1 2,2 3;" + "tidy;".repeat(12) + "lift 0,1,2", 14).count(2), 3);
    }

    static void p04_sixtyCablesAndOneMore() {
        is("laid", rightText(SIXTY, 2).count(2), 60);
        wrongText(SIXTY + ",0 1", 6, 3);
        wrongText(SIXTY + ";lay 0 1", 250, 3);
        is("net makes room", rightText(SIXTY + ";net 2;lay 0 1", 4).count(2), 1);
    }

    static void p04_aTextOf400Bytes() {
        rightText("tidy" + " ".repeat(396), 1);
        rightText(" ".repeat(396) + "tidy", 1);
        is("laid", rightText(" ".repeat(393) + "lay 0 1", 1).count(2), 1);
        is("cost", rightText(" ".repeat(382) + "lay 0 1;cost 0 37", 2).cable(0, 5), 37);
    }

    static void p04_blanksAnywhereAndNowhere() {
        rightText("  net  5 ;  lay  0  1 , 1  2  ;  lift  0 , 1 ; tidy ; fail  3  ", 5);
        CableForest x = rightText("net5;lay0 1,1 2,2 0;lift0,1;tidy;fail4;cost2 7", 6);
        is("cost", x.cable(2, 5), 7);
    }

    static void p04_actsSeeWhatThoseAheadOfThemLeft() {
        is("nodes", rightText("net 16;lay 0 15;net 2;lay 1 0", 4).count(0), 2);
        wrongText("net 16;net 15;lay 0 15", 14, 1);
        wrongText("net 2;lift 0", 6, 4);
        is("there", rightText("lay 0 1;lift 0;lay 0 1;lift 1", 4).count(3), 0);
    }

    static void p04_whatAnActTellsIsDoneOneByOne() {
        // The second lift finds what came in place by the first one.
        CableForest x = rightText("lay 0 1,1 2,2 0;lift 0,2", 2);
        is("trees", x.count(6), 3);
        is("row", x.log(4, 1), 5);
        wrongText("lift 0,0", 0, 4);
        wrongText("lay 0 1,2 2,0 9", 0, 2);
        wrongText("lay 0 1,0 9,2 2", 0, 1);
    }

    static void p04_eachActIsReadWholeAheadOfIt() {
        // Its first pair would be refused, but it is not whole.
        wrongText("lay 0 0,1 x", 10, 0);
        wrongText("lay 0 0,", 8, 0);
        wrongText("lift 33,60", 8, 0);
        // It is whole, and refused, ahead of what stands behind it.
        wrongText("lay 0 0 2", 0, 2);
        wrongText("lay 0 0;xyz", 0, 2);
        wrongText("lift 33;;", 0, 4);
    }

    static void p04_ofAWrongTextNothingStays() {
        wrongText("net 5;lay 0 1,1 2;fail 0;tidy;cost 1 5;lift 1;", 46, 0);
        wrongText("lay 0 1;fail 2;lift 0,4;tidy;lift 33", 29, 4);
        wrongText("tidy;swap 0 0", 5, 5);
    }

    static void p04_aRefusedTextLeavesNothingForTheNext() {
        CableForest x = new CableForest();
        is("refused", acts(x, "lay 0 1;lift 1"), IAE);
        is("right", acts(x, "lay 2 3"), 1);
        is("end", x.cable(0, 0), 2);
        is("refused", acts(x, "lift 0,0"), IAE);
        is("one node", of(() -> x.lay(0, 0)), ISE);
        is("wrong otherwise", acts(x, "lift 0;lift"), IAE);
        is("why stays", x.why(), 2);
        is("there", x.count(3), 1);
    }

    static void p04_aRightTextUsesTheTapeUpAndForgets() {
        CableForest x = busyWith("lay 0 2");
        is("remembered", x.count(14), 4);
        is("acts", of(x::acts), 1);
        is("remembered", x.count(14), 0);
        is("undo", of(x::undo), ISE);
        is("tape", x.end(1), false);
        is("an empty one is right, too", forgets(""), 0);
    }

    private static int forgets(String text) {
        CableForest x = busyWith(text);
        of(x::acts);
        return x.count(14);
    }

    // ---- 5: fault

    static void p05_noneAheadOfAnyText() {
        CableForest x = new CableForest();
        is("fault", x.fault(), -1);
        x.feed(-1, -1, -1, -1, -1);
        is("a text is not read by feed", x.fault(), -1);
    }

    static void p05_ofTheLatestTextThatWasRead() {
        CableForest x = new CableForest();
        acts(x, "tidy;x");
        is("fault", x.fault(), 5);
        tries(x, "net x");
        is("fault of a tried one", x.fault(), 4);
        acts(x, "tidy");
        is("of a right one none", x.fault(), -1);
        acts(x, "x");
        is("fault", x.fault(), 0);
        tries(x, "");
        is("of no text none", x.fault(), -1);
    }

    static void p05_otherCallsLeaveIt() {
        CableForest x = new CableForest();
        acts(x, "tidy;x");
        x.net(5);
        x.lay(0, 1);
        of(() -> x.lay(0, 0));
        x.undo();
        x.image();
        x.back();
        x.feed(0, 0, 0, 0, 0);
        x.end(0);
        is("fault", x.fault(), 5);
    }

    static void p05_theTextsLengthIfMoreMustCome() {
        wrongText("net", 3, 0);
        wrongText("net ", 4, 0);
        wrongText("lay", 3, 0);
        wrongText("lay 0", 5, 0);
        wrongText("lay 0 ", 6, 0);
        wrongText("lay 0 1,", 8, 0);
        wrongText("lay 0 1,2", 9, 0);
        wrongText("lift", 4, 0);
        wrongText("lift 0,", 7, 0);
        wrongText("lift 0, ", 8, 0);
        wrongText("swap", 4, 0);
        wrongText("swap 0", 6, 0);
        wrongText("fail", 4, 0);
        wrongText("cost", 4, 0);
        wrongText("cost 0", 6, 0);
        wrongText("tidy;", 5, 0);
        wrongText("tidy ; ", 7, 0);
        wrongText("net" + " ".repeat(397), 400, 0);
        wrongText("tidy" + " ".repeat(395) + ";", 400, 0);
    }

    static void p05_theBeginOfAWordThatIsNone() {
        wrongText("tid", 0, 0);
        wrongText("tidyy", 0, 0);
        wrongText("tidylay", 0, 0);
        wrongText("ne t 4", 0, 0);
        wrongText("tidy;  laz 0 1", 7, 0);
        wrongText("Tidy", 0, 0);
        wrongText("tiDy", 0, 0);
        wrongText("z", 0, 0);
        wrongText("layz 0 1", 0, 0);
        wrongText("laya 0 1", 0, 0);
        wrongText("tidy;" + "a".repeat(395), 5, 0);
    }

    static void p05_theBeginOfWhatCannotStandThere() {
        wrongText(";", 0, 0);
        wrongText(",", 0, 0);
        wrongText("7", 0, 0);
        wrongText(" ;tidy", 1, 0);
        wrongText("tidy;;tidy", 5, 0);
        wrongText("tidy tidy", 5, 0);
        wrongText("tidy 1", 5, 0);
        wrongText("tidy0", 4, 0);
        wrongText("tidy,", 4, 0);
        wrongText("net 4 4", 6, 0);
        wrongText("net 4,5", 5, 0);
        wrongText("net;", 3, 0);
        wrongText("net x", 4, 0);
        wrongText("net -3", 4, 0);
        wrongText("lay 0,1", 5, 0);
        wrongText("lay 0;1", 5, 0);
        wrongText("lay 0 2 1 3", 8, 0);
        wrongText("lay 0 2lift 0", 7, 0);
        wrongText("lift 0 2", 7, 0);
        wrongText("lift,0", 4, 0);
        wrongText("swap 4 9,5 9", 8, 0);
        wrongText("cost 0 2,3 4", 8, 0);
        wrongText("fail 0,1", 6, 0);
        wrongText("lay 0 1:", 7, 0);
        wrongText("lay 0 1/", 7, 0);
        wrongText("fail 1/", 6, 0);
        wrongText("lay 0 /", 6, 0);
        wrongText("tidy`", 4, 0);
        wrongText("tidy{", 4, 0);
        wrongText("tidy" + (char) 9 + ";", 4, 0);
    }

    static void p05_theFirstWordOfAnActThatIsRefused() {
        wrongText("  lay 0 8", 2, 1);
        wrongText("tidy; lay 3 3", 6, 2);
        wrongText("tidy ;lift 3", 6, 4);
        wrongText("tidy;cost 10 1", 5, 4);
        wrongText("tidy;swap 0 0", 5, 5);
        wrongText("tidy;fail 8", 5, 1);
        wrongText("tidy;".repeat(13) + "lay 0 0", 65, 2);
        wrongText("tidy;".repeat(13) + "lay 0 0;tidy", 65, 2);
    }

    static void p05_behindAWrongThingNothingIsRead() {
        // What stands behind it would be refused, but it is never done: WHY tells nothing of it.
        wrongText("lay 0 2 lift 3", 8, 0);
        wrongText("lay 0 2lift 3", 7, 0);
        wrongText("tidy lay 0 8", 5, 0);
        wrongText("net 9 fail 12", 6, 0);
        wrongText("xyz;lift 3", 0, 0);
        wrongText("lay 0 16;lift 3", 6, 0);
    }

    // ---- 6: why

    static void p06_is0AtFirstAndBehindEachActThatIsDone() {
        is("at first", new CableForest().why(), 0);
        is("lay", whyBehind(0), 0);
        is("lift", whyBehind(1), 0);
        is("cost", whyBehind(2), 0);
        is("swap", whyBehind(3), 0);
        is("fail", whyBehind(4), 0);
        is("tidy", whyBehind(5), 0);
        is("net", whyBehind(6), 0);
    }

    private static int whyBehind(int act) {
        CableForest x = made("lay 0 1,0 1");
        of(() -> x.lift(9));
        is("why", x.why(), 4);
        switch (act) {
            case 0: x.lay(0, 1); break;
            case 1: x.lift(1); break;
            case 2: x.cost(0, 0); break;
            case 3: x.swap(0, 1); break;
            case 4: x.fail(3); break;
            case 5: x.tidy(); break;
            default: x.net(4); break;
        }
        return x.why();
    }

    static void p06_theNumbers1To5() {
        refused("lay 0 8", x -> x.lay(0, 8), 1);
        refused("fail 8", x -> x.fail(8), 1);
        refused("lay 7 7", x -> x.lay(7, 7), 2);
        refused("lift 10", x -> x.lift(10), 4);
        refused("cost 10", x -> x.cost(10, 0), 4);
        refused("swap 0 0", x -> x.swap(0, 0), 5);
        CableForest x = made(SIXTY);
        is("the 61st", of(() -> x.lay(0, 1)), ISE);
        is("why", x.why(), 3);
    }

    static void p06_aTextThatIsRightAndHasAnActMakesIt0() {
        CableForest x = busyWith("tidy");
        is("ahead", x.why(), 2);
        of(x::acts);
        is("behind", x.why(), 0);
    }

    static void p06_aTextWithoutAnActLeavesIt() {
        for (String text : new String[] {"", "   "}) {
            CableForest x = busyWith(text);
            is("acts", of(x::acts), 0);
            is("why", x.why(), 2);
        }
    }

    static void p06_aTextThatIsWrongOtherwiseLeavesIt() {
        wrongText("tidy;tidx", 5, 0);
        wrongText("lay 0 1;lay 0 16", 14, 0);
        wrongText(FOURTEEN + ";tidy", 70, 0);
    }

    static void p06_aTextThatIsWrongByARefusedActTellsItsNumber() {
        wrongText("lay 0 15", 0, 1);
        wrongText("lift 10", 0, 4);
        wrongText("lift 3", 0, 4);
        wrongText("swap 59 58", 0, 5);
    }

    static void p06_triesLeaveIt() {
        CableForest x = busyWith("tidy");
        is("tries", of(x::tries), 2);
        is("why", x.why(), 2);
        is("tries", tries(x, "lift 59"), IAE);
        is("why", x.why(), 2);
    }

    static void p06_whatIsNoActLeavesIt() {
        CableForest x = busy();
        x.undo();
        x.image();
        x.back();
        is("undo", of(x::undo), ISE);
        is("net 1", of(() -> x.net(1)), IAE);
        is("cost 100", of(() -> x.cost(0, 100)), IAE);
        is("heir", of(() -> x.heir(3)), ISE);
        is("would", of(() -> x.would(3, 0)), ISE);
        is("node", of(() -> x.node(8, 0)), IOOB);
        is("why", x.why(), 2);
    }
}
