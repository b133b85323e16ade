/** What README.md says that the calls answer, in its order. */
public final class ReadmeTest extends Checks {
    public static void main(String[] args) {
        CableForest net = new CableForest();
        replacement(net);
        text(net);
        comingBack(net);
        finish("README.md tells what the calls answer");
    }

    private static void replacement(CableForest net) {
        is("nodes", net.count(0), 4);
        is("lay", net.lay(0, 1), 0);
        is("tree", net.cable(0, 2), 0);
        is("lay", net.lay(1, 2), 1);
        is("lay", net.lay(2, 0), 2);
        is("spare", net.cable(2, 2), 1);
        is("lift", net.lift(0), 2);
        is("connected", net.connected(0, 1), true);
        is("undo", net.undo(), 3);
        is("tree again", net.cable(0, 2), 0);
    }

    private static void text(CableForest net) {
        is("feed", net.feed(0x6c617920, 0x30203320, 0, 0, 0), 20);
        is("end", net.end(7), true);
        is("acts", net.acts(), 1);
        is("count of another what", net.count(18), CableForest.NONE);
    }

    private static void comingBack(CableForest net) {
        is("net", net.net(8), 3);
        is("lay", net.lay(0, 1), 0);
        net.image();
        is("cost", net.cost(0, 9), 1);
        is("heir", net.heir(0), -1);
        is("bridge", net.bridge(0), true);
        is("tour", net.tour(0, 0, 1), 100);
        is("undo", net.undo(), 1);
        is("back", net.back(), true);
        is("remembered", net.count(14), 0);
    }
}
