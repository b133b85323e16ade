/** For each promise of the document ordinary inputs, the edges that it names, and wrong inputs. */
public final class PromisesTest extends Checks {
    public static void main(String[] args) {
        newObject();
        feedAndEnd();
        texts();
        wrongTexts();
        refusedTexts();
        whyOfCalls();
        net();
        layAndNames();
        tours();
        lift();
        risesAndSearches();
        searchBothRise();
        cost();
        tries();
        swap();
        fail();
        tidy();
        undo();
        nodes();
        cables();
        levelsAndParts();
        ways();
        heirs();
        kinAndMeet();
        odds();
        fares();
        log();
        hinges();
        cuts();
        image();
        counts();
        finish("the promises hold");
    }

    private static void newObject() {
        CableForest x = new CableForest();
        is("NONE", CableForest.NONE, -1);
        is("new nodes", x.count(0), 4);
        is("new height", x.count(1), 2);
        is("new cables", x.count(2), 0);
        is("new fault", x.fault(), -1);
        is("new why", x.why(), 0);
        is("new image", x.back(), false);
        is("new tape", x.end(0), true);
        is("new tape", x.end(1), false);
        is("new memory", of(x::undo), ISE);
    }

    private static void feedAndEnd() {
        CableForest x = new CableForest();
        for (int i = 1; i <= 20; i++) {
            is("feed", x.feed(0, 0, 0, 0, 0), 20 * i);
        }
        is("feed beyond 400", x.feed(0, 0, 0, 0, 0), -1);
        is("end beyond", x.end(401), false);
        is("end below 0", x.end(-1), false);
        is("end all", x.end(400), true);
        is("end 381", x.end(381), true);
        is("feed to 401", x.feed(0, 0, 0, 0, 0), -1);
        is("end 380", x.end(380), true);
        is("end of what is gone", x.end(381), false);
        is("feed to 400", x.feed(0, 0, 0, 0, 0), 400);
        is("end 0", x.end(0), true);
        // "ti" "dy" across two feeds, each number's highest byte first
        x.feed(0x20202020, 0x20202020, 0x20202020, 0x20202020, 0x20207469);
        x.feed(0x64793b6e, 0x65742031, 0x36202020, 0x20202020, 0x20202020);
        is("tidy;net 16", of(x::acts), 2);
        is("nodes", x.count(0), 16);
        x.feed(0x20202080, 0xFF000000, 0, 0, 0);
        is("bytes above 127", of(x::acts), IAE);
        is("fault there", x.fault(), 3);
    }

    private static void texts() {
        CableForest x = new CableForest();
        is("no text", acts(x, ""), 0);
        is("blanks", acts(x, "   "), 0);
        is("fault of none", x.fault(), -1);
        is("all acts", acts(x, " net 5;lay 0 1 , 1 2,02 0,3 4;lift 0 ,3; swap 1 2;fail 3 ;tidy; cost 1 99 "), IAE);
        is("swap is refused there", x.why(), 5);
        is("all acts", acts(x, " net 5;lay 0 1 , 1 2,02 0,3 4;swap 0 2;lift 0 ,3;fail 3 ;tidy; cost 1 99 "), 7);
        is("why", x.why(), 0);
        is("tape is used up", x.end(1), false);
        is("laid", x.count(2), 4);
        is("there", x.count(3), 2);
        is("cost", x.cable(1, 5), 99);
        is("close together", acts(x, "net3;lay0 1,1 2;cost0 7;tidy;lift1"), 5);
        is("cost", x.cable(0, 5), 7);
        String fourteen = "tidy;tidy;tidy;tidy;tidy;tidy;tidy;tidy;tidy;tidy;tidy;tidy;tidy;tidy";
        is("14 acts", acts(x, fourteen), 14);
        is("15 acts", acts(x, fourteen + " ; tidy"), IAE);
        is("their fault", x.fault(), fourteen.length() + 3);
        is("more must come", acts(x, fourteen + "; "), IAE);
        is("their fault", x.fault(), fourteen.length() + 2);
        x = new CableForest();
        x.lay(0, 1);
        is("remembered", x.count(14), 1);
        is("a wrong text", acts(x, "lay 0 1;lay"), IAE);
        is("nothing stays of it", x.count(2), 1);
        is("still remembered", x.count(14), 1);
        is("a right text", acts(x, " "), 0);
        is("none remembered", x.count(14), 0);
        is("the tape's last byte", acts(x, "tidy" + " ".repeat(396)), 1);
        is("the tape's last byte", acts(x, " ".repeat(396) + "tidy"), 1);
        is("the tape's last byte", acts(x, " ".repeat(393) + "lay 0 1"), 1);
        is("many cables", acts(x, "net 2;lay 0 1" + ",0 1".repeat(59)), 2);
        is("laid", x.count(2), 60);
        is("a cable too many", acts(x, "net 2;lay 0 1" + ",0 1".repeat(60)), IAE);
        is("fault", x.fault(), 6);
        is("why", x.why(), 3);
        is("many", acts(x, "lift 0" + ",1".repeat(197)), IAE);
        is("why", x.why(), 4);
    }

    private static void fault(String text, int at) {
        CableForest x = new CableForest();
        is("acts <" + text + ">", acts(x, text), IAE);
        is("fault of <" + text + ">", x.fault(), at);
        is("why of <" + text + ">", x.why(), 0);
        Tapes.put(x, text);
        is("tries <" + text + ">", of(x::tries), IAE);
        is("fault of tried <" + text + ">", x.fault(), at);
        is("nodes", x.count(0), 4);
        is("cables", x.count(2), 0);
    }

    private static void wrongTexts() {
        fault(";", 0);
        fault(" ;tidy", 1);
        fault("tidy;", 5);
        fault("tidy ; ", 7);
        fault("tidy;;tidy", 5);
        fault("tidy tidy", 5);
        fault("tidy 1", 5);
        fault("tidy,", 4);
        fault("tidytidy", 0);
        fault("Tidy", 0);
        fault("tid", 0);
        fault("7", 0);
        fault("net", 3);
        fault("net ", 4);
        fault("net 1", 4);
        fault("net 17", 4);
        fault("net 004", 4);
        fault("net 4 4", 6);
        fault("net 4,5", 5);
        fault("net x", 4);
        fault("net -3", 4);
        fault("lay", 3);
        fault("lay 0", 5);
        fault("lay 01", 6);
        fault("lay 0,1", 5);
        fault("lay 16 0", 4);
        fault("lay 0 16", 6);
        fault("lay 0 1,", 8);
        fault("lay 0 1,2", 9);
        fault("lay 0 1,;", 8);
        fault("lay 0 1;lay 2 100", 14);
        fault("lay 0 1x", 7);
        fault("lay 0 1 2 3", 8);
        fault("lay 0 0, 1 x", 11);
        fault("lift", 4);
        fault("lift 60", 5);
        fault("lift 0,", 7);
        fault("swap 0 60", 7);
        fault("fail 16", 5);
        fault("cost 0 100", 7);
        fault("cost 60 1", 5);
        fault("net 5;\tlay 0 1", 6);
        fault("net 5" + (char) 0, 5);
        fault("layz 0 1", 0);
        fault("zlay 0 1", 0);
        // Texts that fill the tape, so that the reading ends just where the bytes do.
        fault("net" + " ".repeat(397), 400);
        fault("tidy;" + "a".repeat(395), 5);
        fault("lift" + "9".repeat(396), 4);
        fault("lift" + "9".repeat(395) + ",", 4);
        fault("tidy" + " ".repeat(395) + ";", 400);
        fault("lay " + "0 1,".repeat(99), 400);
        fault("lift" + "0,".repeat(198), 400);
    }

    private static void refusedText(String text, int at, int why) {
        CableForest x = new CableForest();
        Tapes.put(x, text);
        is("tries <" + text + ">", of(x::tries), IAE);
        is("fault of tried <" + text + ">", x.fault(), at);
        is("why stays", x.why(), 0);
        is("acts <" + text + ">", acts(x, text), IAE);
        is("fault of <" + text + ">", x.fault(), at);
        is("why of <" + text + ">", x.why(), why);
        is("nothing stays of <" + text + ">", x.count(2), 0);
        is("a text wrong otherwise", acts(x, "nett"), IAE);
        is("leaves why", x.why(), why);
        is("a text without an act", acts(x, ""), 0);
        is("leaves why", x.why(), why);
        is("a right text", acts(x, "tidy"), 1);
        is("is why 0", x.why(), 0);
        is("and has no fault", x.fault(), -1);
    }

    private static void refusedTexts() {
        refusedText("lay 0 4", 0, 1);
        refusedText(" lay 1 2, 0 15", 1, 1);
        refusedText("tidy; lay 3 3", 6, 2);
        refusedText("lift 0", 0, 4);
        refusedText("lay 0 1; lift 0,0", 9, 4);
        refusedText("lay 0 1;cost 1 0", 8, 4);
        refusedText("lay 0 1,0 1;swap 1 0", 12, 5);
        refusedText("net 15 ;fail 15", 8, 1);
        refusedText("lay 0 0;xyz", 0, 2);
        // The act is done ahead of what stands behind it.
        refusedText("lay 0 0 2", 0, 2);
    }

    private static void whyOfCalls() {
        CableForest x = new CableForest();
        is("no node", of(() -> x.lay(4, 4)), ISE);
        is("why", x.why(), 1);
        is("no node", of(() -> x.lay(-1, 0)), ISE);
        is("why", x.why(), 1);
        is("one node", of(() -> x.lay(2, 2)), ISE);
        is("why", x.why(), 2);
        is("wrong number leaves why", of(() -> x.net(1)), IAE);
        is("why", x.why(), 2);
        is("wrong cost leaves why", of(() -> x.cost(0, -1)), IAE);
        is("why", x.why(), 2);
        is("no cable", of(() -> x.cost(0, 0)), ISE);
        is("why", x.why(), 4);
        is("lay", x.lay(0, 1), 0);
        is("why", x.why(), 0);
        is("no swap", of(() -> x.swap(0, 0)), ISE);
        is("why", x.why(), 5);
        is("net", x.net(3), 1);
        is("why", x.why(), 0);
        is("no node", of(() -> x.fail(-1)), ISE);
        is("why", x.why(), 1);
        x.image();
        x.back();
        is("why of going back", x.why(), 1);
        is("undo", of(x::undo), ISE);
        is("why of undo", x.why(), 1);
        is("tidy", x.tidy(), 0);
        is("why", x.why(), 0);
    }

    private static void net() {
        CableForest x = new CableForest();
        int[] heights = {1, 1, 2, 2, 2, 2, 3, 3, 3, 3, 3, 3, 3, 3, 4};
        for (int n = 2; n <= 16; n++) {
            is("net " + n, x.net(n), heights[n - 2]);
            is("nodes", x.count(0), n);
            is("height", x.count(1), heights[n - 2]);
            is("trees", x.count(6), n);
        }
        x.lay(0, 1);
        x.lay(0, 1);
        x.lift(0);
        is("net 17", of(() -> x.net(17)), IAE);
        is("net -1", of(() -> x.net(-1)), IAE);
        is("cables stay", x.count(2), 2);
        is("net 16", x.net(16), 4);
        is("cables", x.count(2), 0);
        is("risen", x.count(7), 0);
        is("looked", x.count(8), 0);
        is("rows", x.count(17), 0);
        is("memory", x.count(14), 0);
        is("name", x.node(1, 0), 1);
    }

    private static void layAndNames() {
        CableForest x = new CableForest();
        x.net(6);
        is("lay", x.lay(5, 4), 0);
        is("lesser name of like ones", x.node(5, 0), 4);
        is("lay", x.lay(0, 4), 1);
        is("name of more nodes", x.node(0, 0), 4);
        is("spare", x.lay(0, 5), 2);
        is("kind", x.cable(2, 2), 1);
        is("kind", x.cable(1, 2), 0);
        is("cost", x.cable(2, 5), 1);
        is("named", x.named(4), 0);
        is("named", x.named(0), -1);
        is("named", x.named(-1), -1);
        is("named", x.named(99), -1);
        for (int i = 3; i < 60; i++) {
            is("lay", x.lay(1, 2), i);
        }
        is("the 61st", of(() -> x.lay(1, 2)), ISE);
        is("why", x.why(), 3);
        is("the 61st of no node", of(() -> x.lay(1, 6)), ISE);
        is("why", x.why(), 1);
        is("the 61st of one node", of(() -> x.lay(1, 1)), ISE);
        is("why", x.why(), 2);
        x.lift(59);
        is("lifted ones count", of(() -> x.lay(1, 2)), ISE);
        is("double", x.count(12), 56 * 55 / 2);
        is("cut", x.cut(1, 2), 56);
        x.net(2);
        is("lay", x.lay(1, 0), 0);
    }

    private static void tours() {
        CableForest x = made("net 5;lay 0 1");
        isTour(x, 0, 1, "0 100 1 200");
        x.lay(0, 2);
        isTour(x, 0, 2, "0 100 1 200 101 2 201");
        // Turned to 1: what was ahead comes behind, the first bracket opens.
        x.lay(3, 1);
        isTour(x, 0, 0, "3 102 1 100 101 2 201 0 200 202");
        isTour(x, 0, 4, "4");
        isTour(x, 1, 0, "0");
        is("deep", x.deep(0, 3), 0);
        is("deep", x.deep(0, 1), 1);
        is("deep", x.deep(0, 2), 3);
        is("deep", x.deep(0, 0), 2);
        is("deep", x.deep(2, 0), 0);
        is("above", x.kin(0, 2, 0), 0);
        is("above", x.kin(0, 0, 0), 1);
        is("above", x.kin(0, 1, 0), 3);
        is("above", x.kin(0, 3, 0), -1);
        x.lift(0);
        // What lay inside begins with a bracket now.
        isTour(x, 0, 0, "101 2 201 0");
        isTour(x, 0, 1, "3 102 1 202");
        is("deep", x.deep(0, 2), 1);
        is("deep", x.deep(0, 0), 0);
        is("tour beyond", x.tour(0, 0, 4), -1);
        is("tour k", x.tour(0, 0, Integer.MIN_VALUE), -1);
        is("tour k", x.tour(0, 0, Integer.MAX_VALUE), -1);
        is("tour level", of(() -> x.tour(3, 0, 0)), IOOB);
        is("tour level", of(() -> x.tour(-1, 0, 0)), IOOB);
        is("tour node", of(() -> x.tour(0, 5, 0)), IOOB);
        is("deep level", of(() -> x.deep(3, 0)), IOOB);
        is("deep node", of(() -> x.deep(0, -1)), IOOB);
    }

    private static void lift() {
        CableForest x = made("net 4;lay 0 1,1 2,2 3,0 2,0 3");
        is("spare", x.lift(3), -1);
        is("still one", x.count(6), 1);
        is("heir", x.lift(1), 4);
        is("kind", x.cable(4, 2), 0);
        is("looked", x.count(8), 1);
        is("again", of(() -> x.lift(1)), ISE);
        is("why", x.why(), 4);
        is("none", of(() -> x.lift(5)), ISE);
        is("none", of(() -> x.lift(-1)), ISE);
        is("bridge", x.lift(4), -1);
        is("parts", x.part(0, 0), 3);
        is("of like ones the first end's keeps its name", x.node(0, 0), 0);
        is("the other has the least free one", x.node(2, 0), 1);
        is("bridge", x.lift(2), -1);
        is("first end keeps", x.node(2, 0), 1);
        is("least free", x.node(3, 0), 2);
        CableForest y = made("net 4;lay 0 1,1 2,2 3;lift 0");
        is("more nodes keep", y.node(1, 0), 0);
        is("fewer have a new one", y.node(0, 0), 1);
    }

    private static void risesAndSearches() {
        // A path 0-1-2-3 and a spare 0-3: lifting 1-2 makes 0-1 rise ahead of the search among spares.
        CableForest x = made("net 4;lay 0 1,1 2,2 3,3 0");
        is("would look", x.would(1, 0), 1);
        is("would rise", x.would(1, 1), 1);
        is("nothing happened", x.count(7), 0);
        is("heir", x.lift(1), 3);
        is("level of the risen", x.cable(0, 3), 1);
        is("rose", x.cable(0, 4), 1);
        is("not the greater part's", x.cable(2, 3), 0);
        is("level in place", x.cable(3, 3), 0);
        is("risen", x.count(7), 1);
        is("looked", x.count(8), 1);
        isTour(x, 1, 1, "0 100 1 200");
        isTour(x, 0, 1, "3 102 2 202 103 0 100 1 200 203");
        is("part", x.part(1, 0), 3);
        is("greatest level", x.count(13), 1);
        // Now 0-1 is on levels 0 and 1; it is split on both.
        is("lift", x.lift(0), -1);
        isTour(x, 1, 1, "1");
        is("level of a lifted one", x.cable(0, 3), 1);
        is("greatest level", x.count(13), 0);
        is("names", x.node(1, 0), 1);
    }

    private static void searchBothRise() {
        // Small is {0, 1}: its tree cable and its inner spare rise, the spare across comes in place.
        CableForest x = made("net 5;lay 0 1,0 1,1 2,2 3,3 4,1 3");
        is("would look", x.would(2, 0), 2);
        is("would rise", x.would(2, 1), 2);
        is("heir", x.heir(2), 5);
        is("lift", x.lift(2), 5);
        is("tree rose", x.cable(0, 3), 1);
        is("spare rose", x.cable(1, 3), 1);
        is("spare", x.cable(1, 2), 1);
        is("risen", x.count(7), 2);
        is("looked", x.count(8), 2);
        // The spare of level 1 replaces the tree cable of level 1, on both levels.
        is("lift on level 1", x.lift(0), 1);
        is("its level", x.cable(1, 3), 1);
        isTour(x, 1, 0, "0 101 1 201");
        is("row", x.log(x.count(17) - 1, 2), 1);
        // Of like ones SMALL is that of the first end.
        x = made("net 4;lay 0 1,2 3,2 1,0 3");
        is("lift", x.lift(2), 3);
        is("first end's part rose", x.cable(1, 3), 1);
        is("the other did not", x.cable(0, 3), 0);
        // A search that finds nothing on its level goes on below.
        x = made("net 8;lay 0 1,1 2,2 3,3 4,4 5,5 6,6 7,0 7");
        is("lift", x.lift(3), 7);
        is("rise", x.cable(0, 3), 1);
        is("lift", x.lift(1), -1);
        is("rise to 2", x.cable(0, 3), 2);
        is("not the other part's", x.cable(2, 3), 1);
        is("rose", x.cable(0, 4), 2);
        is("risen", x.count(7), 4);
        is("rows of the log", x.count(17), 15);
        isTour(x, 2, 1, "0 100 1 200");
    }

    private static void cost() {
        CableForest x = made("lay 0 1,1 2");
        is("was", x.cost(0, 99), 1);
        is("was", x.cost(0, 0), 99);
        is("is", x.cable(0, 5), 0);
        is("too much", of(() -> x.cost(0, 100)), IAE);
        is("too little", of(() -> x.cost(0, -1)), IAE);
        is("told first", of(() -> x.cost(7, 100)), IAE);
        is("no cable", of(() -> x.cost(2, 1)), ISE);
        is("no cable", of(() -> x.cost(-1, 1)), ISE);
        x.lift(1);
        is("lifted", of(() -> x.cost(1, 1)), ISE);
        is("why", x.why(), 4);
    }

    private static void tries() {
        CableForest x = made("lay 0 1,1 2");
        x.lay(2, 0);
        Tapes.put(x, "lift 0,1; fail 3");
        is("tries", of(x::tries), 3);
        is("tape", x.end(1), false);
        is("nothing stays", x.count(3), 3);
        is("memory stays", x.count(14), 1);
        Tapes.put(x, "net 9");
        is("tries", of(x::tries), 9);
        is("nodes", x.count(0), 4);
        is("no text", of(x::tries), 2);
        is("memory stays", x.count(14), 1);
        Tapes.put(x, "lift 9");
        is("tries", of(x::tries), IAE);
        is("fault", x.fault(), 0);
        is("why stays", x.why(), 0);
        is("lift", of(() -> x.lift(9)), ISE);
        Tapes.put(x, "tidy");
        is("tries", of(x::tries), 2);
        is("why stays", x.why(), 4);
        is("fault", x.fault(), -1);
    }

    private static void swap() {
        CableForest x = made("net 5;lay 0 1,1 2,2 3,0 2,3 4,0 1");
        is("not on its way", of(() -> x.swap(2, 3)), ISE);
        is("why", x.why(), 5);
        is("two trees", of(() -> x.swap(0, 1)), ISE);
        is("two spares", of(() -> x.swap(3, 5)), ISE);
        is("turned round", of(() -> x.swap(3, 0)), ISE);
        is("no cable", of(() -> x.swap(0, 6)), ISE);
        is("no cable", of(() -> x.swap(-1, 3)), ISE);
        int rows = x.count(17);
        is("swap", x.swap(1, 3), 4);
        is("no row", x.count(17), rows);
        is("spare", x.cable(1, 2), 1);
        is("tree", x.cable(3, 2), 0);
        isTour(x, 0, 0, "0 100 1 200 103 2 102 104 4 204 3 202 203");
        is("name", x.node(4, 0), 0);
        CableForest y = made("net 4;lay 0 1,1 2,2 3,3 0,0 1");
        y.lift(1);
        is("level 1", y.cable(0, 3), 1);
        is("of level 1", of(() -> y.swap(0, 4)), ISE);
        y.lift(4);
        is("lifted", of(() -> y.swap(0, 4)), ISE);
    }

    private static void fail() {
        CableForest x = made("net 5;lay 0 1,0 2,0 3,1 2,3 4");
        is("fail", x.fail(0), 3);
        is("there", x.count(3), 2);
        is("the spare came in place first", x.cable(3, 2), 0);
        is("and rose then", x.cable(3, 3), 1);
        is("parts", x.count(6), 3);
        is("name", x.node(1, 0), 1);
        is("name", x.node(3, 0), 0);
        is("name", x.node(0, 0), 2);
        is("again", x.fail(0), 0);
        is("remembered as one", x.count(14), 2);
        is("no node", of(() -> x.fail(5)), ISE);
        is("why", x.why(), 1);
        is("no node", of(() -> x.fail(-1)), ISE);
    }

    private static void tidy() {
        CableForest x = made("net 4;lay 0 1,1 2,2 3,3 0");
        x.lift(1);
        is("level", x.cable(0, 3), 1);
        x.lay(1, 2);
        int name = x.node(0, 0);
        int rows = x.count(17);
        is("tidy", x.tidy(), 1);
        is("level", x.cable(0, 3), 0);
        is("rose stays", x.cable(0, 4), 1);
        is("risen stays", x.count(7), 1);
        is("name", x.node(0, 0), name);
        is("no row", x.count(17), rows);
        isTour(x, 0, 0, "3 102 2 202 103 0 100 1 200 203");
        isTour(x, 1, 0, "0");
        is("tidy", x.tidy(), 0);
        x.swap(0, 4);
        is("tidy after swap", x.tidy(), 2);
        is("tree again", x.cable(0, 2), 0);
        CableForest y = made("net 3;lay 2 1,1 0;lift 1");
        is("name", y.node(0, 0), 0);
        is("name", y.node(2, 0), 1);
        y.tidy();
        is("names stay", y.node(2, 0), 1);
        is("lifted stays", y.cable(1, 2), 2);
    }

    private static void undo() {
        CableForest x = new CableForest();
        for (int i = 0; i < 10; i++) {
            x.lay(0, 1);
        }
        is("8 are remembered", x.count(14), 8);
        for (int i = 7; i >= 0; i--) {
            is("undo", x.undo(), i);
        }
        is("two are left", x.count(2), 2);
        is("no more", of(x::undo), ISE);
        is("lay", x.lay(1, 2), 2);
        is("lay", x.lay(2, 0), 3);
        is("refused", of(() -> x.lay(0, 0)), ISE);
        is("is not remembered", x.count(14), 2);
        is("fail", x.fail(0), 3);
        is("undo of all", x.undo(), 2);
        is("back", x.count(3), 4);
        is("row", x.count(17), 4);
        is("why stays", x.why(), 0);
        x.cost(0, 5);
        x.tidy();
        x.swap(0, 1);
        is("undo swap", x.undo(), 4);
        is("tree", x.cable(0, 2), 0);
        is("undo tidy", x.undo(), 3);
        is("undo cost", x.undo(), 2);
        is("cost", x.cable(0, 5), 1);
        x.net(4);
        is("net forgets", of(x::undo), ISE);
        x.lay(0, 1);
        x.image();
        x.back();
        is("going back forgets", of(x::undo), ISE);
        x.lay(0, 1);
        acts(x, "tidy");
        is("a right text forgets", of(x::undo), ISE);
    }

    private static void nodes() {
        // 0-1-2 a ring, 2-3 a bridge, 3-4-5 a ring, 6 alone
        CableForest x = made("net 7;lay 0 1,1 2,2 0,2 3,3 4,4 5,5 3");
        is("connected", x.connected(0, 5), true);
        is("connected", x.connected(0, 6), false);
        is("connected", x.connected(6, 6), true);
        is("connected", of(() -> x.connected(0, 7) ? 1 : 0), IOOB);
        is("connected", of(() -> x.connected(-1, 0) ? 1 : 0), IOOB);
        is("all", x.node(0, 1), 63);
        is("itself", x.node(6, 1), 64);
        is("cables", x.node(2, 2), 3);
        is("tree cables", x.node(2, 3), 2);
        is("span", x.node(0, 4), 3);
        is("span", x.node(2, 4), 2);
        is("span", x.node(6, 4), 0);
        is("island", x.node(0, 5), 7);
        is("island", x.node(4, 5), 56);
        is("island", x.node(6, 5), 64);
        is("another what", of(() -> x.node(0, 6)), NSE);
        is("another what", of(() -> x.node(0, -1)), NSE);
        is("told first", of(() -> x.node(7, 9)), IOOB);
        is("near", x.near(0, 5), 3);
        is("near", x.near(1, 1), 0);
        is("near", x.near(1, 6), -1);
        is("near", of(() -> x.near(7, 0)), IOOB);
        is("near", of(() -> x.near(0, 7)), IOOB);
        is("within", x.within(0, 0), 1);
        is("within", x.within(0, 1), 7);
        is("within", x.within(0, 2), 15);
        is("within", x.within(0, 16), 63);
        is("within", of(() -> x.within(0, 17)), IAE);
        is("within", of(() -> x.within(0, -1)), IAE);
        is("within", of(() -> x.within(7, 17)), IOOB);
    }

    private static void cables() {
        CableForest x = made("net 7;lay 0 1,1 2,2 0,2 3,3 4,4 5,5 3,6 0;cost 3 42;lift 7");
        is("end", x.cable(3, 0), 2);
        is("end", x.cable(3, 1), 3);
        is("tree", x.cable(3, 2), 0);
        is("spare", x.cable(2, 2), 1);
        is("lifted", x.cable(7, 2), 2);
        is("cost", x.cable(3, 5), 42);
        is("loss", x.cable(3, 6), 9);
        is("loss", x.cable(0, 6), 0);
        is("loss of a lifted one", x.cable(7, 6), 0);
        is("another what", of(() -> x.cable(0, 7)), NSE);
        is("another what", of(() -> x.cable(0, -1)), NSE);
        is("no cable", of(() -> x.cable(8, 7)), IOOB);
        is("no cable", of(() -> x.cable(-1, 0)), IOOB);
        is("bridge", x.bridge(3), true);
        is("bridge", x.bridge(0), false);
        is("a spare is none", x.bridge(2), false);
        is("a lifted one is none", x.bridge(7), false);
        is("no cable", of(() -> x.bridge(8) ? 1 : 0), IOOB);
    }

    private static void levelsAndParts() {
        CableForest x = made("net 5;lay 0 1,0 1,1 2,2 3,3 4,1 3");
        x.lift(2);
        is("trees", x.level(0, 0), 1);
        is("trees", x.level(1, 0), 4);
        is("trees", x.level(2, 0), 5);
        is("tree cables", x.level(0, 1), 3);
        is("tree cables", x.level(1, 1), 1);
        is("spare ones", x.level(0, 2), 0);
        is("spare ones", x.level(1, 2), 1);
        is("greatest", x.level(0, 3), 5);
        is("greatest", x.level(1, 3), 2);
        is("greatest", x.level(2, 3), 1);
        is("another what", of(() -> x.level(0, 4)), NSE);
        is("no level", of(() -> x.level(3, 4)), IOOB);
        is("no level", of(() -> x.level(-1, 0)), IOOB);
        is("part", x.part(0, 4), 31);
        is("part", x.part(1, 1), 3);
        is("part", x.part(1, 4), 16);
        is("no level", of(() -> x.part(3, 0)), IOOB);
        is("no node", of(() -> x.part(0, 5)), IOOB);
    }

    private static void ways() {
        CableForest x = made("net 6;lay 0 1,2 1,2 3,4 1,0 3");
        is("length", x.way(0, 3, -1), 3);
        is("way", x.way(0, 3, 0), 0);
        is("way", x.way(0, 3, 1), 1);
        is("way", x.way(0, 3, 2), 2);
        is("way", x.way(0, 3, 3), 3);
        is("way", x.way(0, 3, 4), -1);
        is("way", x.way(0, 3, -2), -1);
        is("way", x.way(3, 4, 2), 1);
        is("to itself", x.way(5, 5, -1), 0);
        is("to itself", x.way(5, 5, 0), 5);
        is("to itself", x.way(5, 5, 1), -1);
        is("not connected", x.way(0, 5, -1), -1);
        is("not connected", x.way(0, 5, 0), -1);
        is("no node", of(() -> x.way(6, 0, 0)), IOOB);
        is("no node", of(() -> x.way(0, -1, -1)), IOOB);
        is("no node", of(() -> x.way(0, 6, 0)), IOOB);
    }

    private static void heirs() {
        CableForest x = made("net 5;lay 0 1,1 2,2 0,2 0,2 3;lift 3");
        is("heir", x.heir(0), 2);
        is("none", x.heir(4), -1);
        is("spare", of(() -> x.heir(2)), ISE);
        is("lifted", of(() -> x.heir(3)), ISE);
        is("no cable", of(() -> x.heir(5)), IOOB);
        is("would", x.would(2, 0), 0);
        is("would", x.would(2, 1), 0);
        is("would", x.would(0, 0), 1);
        is("would", x.would(4, 0), 0);
        is("lifted", of(() -> x.would(3, 0)), ISE);
        is("another what", of(() -> x.would(3, 2)), NSE);
        is("another what", of(() -> x.would(0, -1)), NSE);
        is("no cable", of(() -> x.would(5, 2)), IOOB);
        is("there", x.count(3), 4);
    }

    private static void kinAndMeet() {
        CableForest x = made("net 7;lay 0 1,0 2,1 3,1 4,2 5");
        // The last cable turned the tour to 2, and 1 came behind what hangs on it.
        isTour(x, 0, 0, "2 101 0 100 102 3 202 103 4 203 1 200 201 104 5 204");
        is("above", x.kin(0, 0, 0), 2);
        is("above", x.kin(0, 3, 0), 1);
        is("above", x.kin(0, 2, 0), -1);
        is("below", x.kin(0, 2, 1), 63);
        is("below", x.kin(0, 1, 1), 26);
        is("below", x.kin(0, 5, 1), 32);
        is("above", x.kin(1, 3, 0), -1);
        is("below", x.kin(1, 3, 1), 8);
        is("another what", of(() -> x.kin(0, 0, 2)), NSE);
        is("no level", of(() -> x.kin(3, 0, 2)), IOOB);
        is("no node", of(() -> x.kin(0, 7, 2)), IOOB);
        is("meet", x.meet(0, 3, 4), 1);
        is("meet", x.meet(0, 3, 5), 2);
        is("meet", x.meet(0, 0, 3), 0);
        is("meet", x.meet(0, 3, 0), 0);
        is("meet", x.meet(0, 3, 3), 3);
        is("two trees", x.meet(0, 3, 6), -1);
        is("two trees", x.meet(1, 3, 4), -1);
        is("no level", of(() -> x.meet(-1, 0, 0)), IOOB);
        is("no node", of(() -> x.meet(0, 0, 7)), IOOB);
        is("no node", of(() -> x.meet(0, 7, 0)), IOOB);
    }

    private static void odds() {
        CableForest x = made("net 4;lay 0 1,1 2,0 2");
        is("odds", x.odds(0, 2), 5);
        is("odds", x.odds(0, 0), 8);
        is("odds", x.odds(0, 3), 0);
        is("no node", of(() -> x.odds(0, 4)), IOOB);
        is("no node", of(() -> x.odds(-1, 0)), IOOB);
        acts(x, "lay 0 1,0 1,0 1,0 1,0 1,0 1,0 1,0 1,0 1");
        is("twelve", x.odds(0, 1), 4096 - 3);
        x.lay(2, 3);
        is("thirteen", x.odds(0, 1), -1);
        is("thirteen", x.odds(1, 1), -1);
        x.lift(5);
        is("twelve", x.odds(0, 3), 1024 + 511);
    }

    private static void fares() {
        CableForest x = made("net 5;lay 0 1,1 2,0 2,2 3;cost 0 3;cost 1 4;cost 2 9;cost 3 0");
        is("fare", x.fare(0, 2), 7);
        is("fare", x.fare(0, 3), 7);
        is("fare", x.fare(2, 3), 0);
        is("fare", x.fare(2, 2), 0);
        is("fare", x.fare(2, 4), -1);
        is("no node", of(() -> x.fare(5, 0)), IOOB);
        is("no node", of(() -> x.fare(0, 5)), IOOB);
        is("cheapest", x.count(16), 7);
        x.cost(0, 50);
        is("fare", x.fare(0, 2), 9);
        is("fare", x.fare(0, 1), 13);
        is("cheapest", x.count(16), 13);
        x.lift(2);
        is("fare", x.fare(0, 1), 50);
    }

    private static void log() {
        CableForest x = made("net 4;lay 0 1,1 2,2 3,3 0;lift 1");
        int[][] rows = {{0, 0, 0}, {1, 0, 0}, {2, 0, 0}, {3, 1, 0}, {1, 3, 0}, {0, 4, 1}, {3, 5, 0}};
        is("rows", x.count(17), 7);
        for (int k = 0; k < 7; k++) {
            for (int what = 0; what < 3; what++) {
                is("row " + k + " " + what, x.log(k, what), rows[k][what]);
            }
        }
        is("without", x.log(7, 0), -1);
        is("without", x.log(-1, 2), -1);
        is("another what", of(() -> x.log(0, 3)), NSE);
        is("another what", of(() -> x.log(99, -1)), NSE);
        x.lay(0, 1);
        x.lift(4);
        is("lifted being spare", x.log(8, 1), 2);
        x.net(4);
        is("since net", x.count(17), 0);
        for (int i = 0; i < 45; i++) {
            x.lay(0, 1);
        }
        is("forty", x.count(17), 40);
        is("eldest", x.log(0, 0), 5);
        is("latest", x.log(39, 0), 44);
        is("without", x.log(40, 0), -1);
    }

    private static void hinges() {
        is("none", new CableForest().hinges(), 0);
        is("path", made("net 4;lay 0 1,1 2,2 3").hinges(), 6);
        is("ring", made("net 4;lay 0 1,1 2,2 3,3 0").hinges(), 0);
        is("two rings", made("net 5;lay 0 1,1 2,2 0,2 3,3 4,4 2").hinges(), 4);
        is("a pair", made("net 4;lay 0 1,2 3").hinges(), 0);
    }

    private static void cuts() {
        CableForest x = made("net 5;lay 0 1,0 1,1 2,2 3,3 0,0 2");
        is("cut", x.cut(0, 1), 3);
        is("cut", x.cut(0, 2), 3);
        is("cut", x.cut(0, 3), 2);
        is("cut", x.cut(0, 4), 0);
        is("one", x.cut(4, 4), 99);
        // The shortest way takes 2-3; for two ways it must be given up again.
        CableForest y = made("net 8;lay 0 2,2 3,3 1,2 4,4 5,5 1,0 6,6 7,7 3");
        is("cut", y.cut(0, 1), 2);
        is("cut", y.cut(1, 0), 2);
        is("no node", of(() -> x.cut(5, 5)), IOOB);
        is("no node", of(() -> x.cut(0, -1)), IOOB);
    }

    private static void image() {
        CableForest x = made("net 5;lay 0 1,1 2,2 0;lift 0");
        x.image();
        int looked = x.count(8);
        x.lift(1);
        is("refused", of(() -> x.lift(1)), ISE);
        Tapes.put(x, "net 7x");
        is("wrong", of(x::acts), IAE);
        x.net(3);
        is("refused", of(() -> x.lift(1)), ISE);
        x.feed(0, 0, 0, 0, 0);
        is("back", x.back(), true);
        is("nodes", x.count(0), 5);
        is("there", x.count(3), 2);
        is("looked", x.count(8), looked);
        is("rows", x.count(17), 5);
        is("tape stays", x.end(20), true);
        is("fault stays", x.fault(), 5);
        is("why stays", x.why(), 4);
        x.fail(2);
        is("back again", x.back(), true);
        is("there", x.count(3), 2);
        x.net(9);
        x.image();
        x.net(2);
        is("back to the new one", x.back(), true);
        is("nodes", x.count(0), 9);
    }

    private static void counts() {
        CableForest x = made("net 8;lay 0 1,1 2,2 0,2 3,3 4,4 3,5 6,5 6;lift 7;cost 1 5");
        int[] due = {8, 3, 8, 7, 5, 2, 3, 0, 0, 2, 3, 5, 1, 0, 0, 3, 5, 9};
        for (int what = 0; what < due.length; what++) {
            is("count " + what, x.count(what), due[what]);
        }
        is("count 18", x.count(18), -1);
        is("count -1", x.count(-1), -1);
        is("level of none", new CableForest().count(13), -1);
        is("key of none", new CableForest().count(15), -1);
        is("key: of several the least", made("net 4;lay 2 3,0 1").count(15), 0);
    }
}
