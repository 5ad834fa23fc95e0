/** Promise 4: prefix. */
public final class PrefixTest {
    private static final Check check = new Check("PrefixTest");
    private static final int FORMED = Hosts.address(5, 7);

    public static void main(String[] args) {
        formsAnAddress();
        settlesAsDeprecatedIfItMust();
        livesEndInTime();
        validLifeGoesBeforeAllElse();
        doesNotForm();
        formsFiveAtMost();
        renewsThePreferredLife();
        renewsTheValidLife();
        leavesDuplicatesAlone();
        keepsOnLinkPrefixes();
        leavesLocalAlone();
        refusesWrongArguments();
        refusesWhileDown();
        check.end();
    }

    private static LinkHost formed(int valid, int preferred) {
        LinkHost host = Hosts.ready(7);
        host.prefix(5, 2, valid, preferred);
        return host;
    }

    private static void formsAnAddress() {
        check.under("if the host has no address with that prefix: if the valid life is not 0 and "
                + "there are fewer than 5, it is formed");
        LinkHost host = formed(100, 30);
        check.due("tentative", host.own(1), Hosts.owned(Hosts.TENTATIVE, FORMED));
        check.due("until", host.until(1), 102);
        check.out("probe", host, 0, 1, Hosts.GROUP, FORMED);
        check.due("no on-link prefix", host.count(3), 0);
        host.tick(1);
        check.out("second probe", host, 0, 1, Hosts.GROUP, FORMED);
        check.due("sent", host.count(6), 4);
        host.tick(1);
        check.due("preferred", host.own(1), Hosts.owned(Hosts.PREFERRED, FORMED));
        check.due("sent no more", host.count(6), 4);
    }

    private static void settlesAsDeprecatedIfItMust() {
        check.under("it is preferred (or deprecated, if its preferred life is over)");
        int[][] livesAndStates = {
            {0, Hosts.DEPRECATED}, {1, Hosts.DEPRECATED}, {2, Hosts.DEPRECATED},
            {3, Hosts.PREFERRED},
        };
        for (int[] pair : livesAndStates) {
            LinkHost host = formed(50, pair[0]);
            host.tick(1);
            check.due("tentative with " + pair[0], host.own(1),
                    Hosts.owned(Hosts.TENTATIVE, FORMED));
            host.tick(1);
            check.due("settled with " + pair[0], host.own(1), Hosts.owned(pair[1], FORMED));
        }
    }

    private static void livesEndInTime() {
        check.under("When the preferred life is over, a preferred one is deprecated; when its "
                + "valid life is over, it is taken away");
        LinkHost host = formed(20, 10);
        host.tick(9);
        check.due("preferred", host.own(1), Hosts.owned(Hosts.PREFERRED, FORMED));
        host.tick(1);
        check.due("deprecated", host.own(1), Hosts.owned(Hosts.DEPRECATED, FORMED));
        host.tick(9);
        check.due("there", host.count(1), 2);
        host.tick(1);
        check.due("taken away", host.count(1), 1);
        LinkHost endless = formed(1000, 1000);
        check.due("until", endless.until(1), -1);
        for (int i = 0; i < 11; i++) {
            endless.tick(100);
        }
        check.due("preferred for ever", endless.own(1), Hosts.owned(Hosts.PREFERRED, FORMED));
        LinkHost once = formed(1000, 10);
        once.tick(100);
        check.due("deprecated for ever", once.own(1), Hosts.owned(Hosts.DEPRECATED, FORMED));
    }

    private static void validLifeGoesBeforeAllElse() {
        check.under("it is taken away (a duplicate one, too; this goes before all else in a tick)");
        LinkHost one = formed(1, 1);
        one.tick(1);
        check.due("taken away", one.count(1), 1);
        check.due("before a second probe", one.count(6), 3);
        LinkHost two = formed(2, 2);
        two.tick(1);
        check.due("one more probe", two.count(6), 4);
        two.tick(1);
        check.due("taken away", two.count(1), 1);
        LinkHost duplicate = formed(5, 5);
        duplicate.asked(0, FORMED, 3);
        duplicate.tick(4);
        check.due("duplicate", duplicate.own(1), Hosts.owned(Hosts.DUPLICATE, FORMED));
        duplicate.tick(1);
        check.due("taken away, too", duplicate.count(1), 1);
    }

    private static void doesNotForm() {
        check.under("If it tells FORM (flag 2), and the preferred life is not greater than the "
                + "valid one: if the host has no address with that prefix: if the valid life is "
                + "not 0");
        LinkHost host = Hosts.ready(7);
        host.prefix(5, 2, 0, 0);
        check.due("valid life 0", host.count(1), 1);
        host.prefix(5, 2, 10, 11);
        check.due("preferred longer than valid", host.count(1), 1);
        host.prefix(5, 0, 10, 10);
        host.prefix(5, 1, 10, 10);
        check.due("not told to form", host.count(1), 1);
        host.prefix(5, 3, 10, 11);
        check.due("preferred longer than valid with both flags", host.count(1), 1);
        check.due("nothing is sent", host.count(6), 2);
        host.prefix(5, 2, 10, 10);
        check.due("as long as valid", host.count(1), 2);
    }

    private static void formsFiveAtMost() {
        check.under("and there are fewer than 5, it is formed");
        LinkHost host = Hosts.ready(7);
        for (int prefix = 2; prefix <= 6; prefix++) {
            host.prefix(prefix, 2, prefix == 3 ? 10 : 100, 10);
        }
        check.due("five", host.count(1), 5);
        for (int i = 0; i < 5; i++) {
            check.due("own " + i, host.own(i) % 65536, Hosts.address(i + 1, 7));
        }
        check.due("sent", host.count(6), 6);
        host.tick(10);
        check.due("one went", host.count(1), 4);
        check.due("the others moved up", host.own(2) % 65536, Hosts.address(4, 7));
        host.prefix(6, 2, 100, 10);
        check.due("there is room again", host.own(4),
                Hosts.owned(Hosts.TENTATIVE, Hosts.address(6, 7)));
    }

    private static void renewsThePreferredLife() {
        check.under("else, unless it is duplicate, its preferred life is that told (if it is not "
                + "tentative, it is preferred, or deprecated if that is 0), and its valid life is "
                + "that told");
        LinkHost host = formed(100, 50);
        host.prefix(5, 2, 100, 0);
        check.due("tentative stays so", host.own(1), Hosts.owned(Hosts.TENTATIVE, FORMED));
        check.due("one address", host.count(1), 2);
        check.due("no new probe", host.count(6), 3);
        host.tick(2);
        check.due("then deprecated", host.own(1), Hosts.owned(Hosts.DEPRECATED, FORMED));
        host.prefix(5, 2, 100, 10);
        check.due("preferred again", host.own(1), Hosts.owned(Hosts.PREFERRED, FORMED));
        host.tick(9);
        check.due("for nine ticks", host.own(1), Hosts.owned(Hosts.PREFERRED, FORMED));
        host.tick(1);
        check.due("not ten", host.own(1), Hosts.owned(Hosts.DEPRECATED, FORMED));
        host.prefix(5, 2, 1000, 1000);
        host.tick(100);
        check.due("without end", host.own(1), Hosts.owned(Hosts.PREFERRED, FORMED));
        host.prefix(5, 2, 0, 0);
        check.due("told 0", host.own(1), Hosts.owned(Hosts.DEPRECATED, FORMED));
        host.prefix(5, 2, 100, 101);
        check.due("longer than valid: nothing", host.own(1),
                Hosts.owned(Hosts.DEPRECATED, FORMED));
    }

    private static void renewsTheValidLife() {
        check.under("its valid life is that told, if that is more than 20, or more than what it "
                + "has left; otherwise, if it has more than 20 left, it has 20.");
        int[][] leftToldAndWanted = {
            {100, 50, 50}, {100, 21, 21}, {100, 20, 20}, {100, 5, 20}, {100, 0, 20},
            {100, 1000, 1000}, {21, 20, 20}, {21, 1, 20}, {20, 1, 20}, {20, 0, 20}, {20, 20, 20},
            {10, 5, 10}, {10, 10, 10}, {10, 11, 11}, {10, 0, 10}, {10, 200, 200},
            {1000, 5, 20}, {1000, 21, 21}, {1000, 1000, 1000}, {1000, 0, 20},
        };
        for (int[] row : leftToldAndWanted) {
            LinkHost host = formed(row[0] == 1000 ? 1000 : row[0] + 3, 0);
            host.tick(3);
            host.prefix(5, 2, row[1], 0);
            check.due(row[0] + " left, told " + row[1], host.until(1),
                    row[2] == 1000 ? -1 : 5 + row[2]);
        }
        LinkHost host = formed(100, 0);
        host.prefix(5, 2, 10, 0);
        check.due("tentative, too", host.until(1), 22);
        host.tick(19);
        check.due("there", host.count(1), 2);
        host.tick(1);
        check.due("taken away", host.count(1), 1);
    }

    private static void leavesDuplicatesAlone() {
        check.under("else, unless it is duplicate");
        LinkHost host = formed(100, 50);
        host.told(FORMED, 3, 0);
        host.prefix(5, 2, 500, 400);
        check.due("duplicate", host.own(1), Hosts.owned(Hosts.DUPLICATE, FORMED));
        check.due("valid life", host.until(1), 102);
        check.due("no other is formed", host.count(1), 2);
        host.tick(60);
        check.due("not deprecated", host.own(1), Hosts.owned(Hosts.DUPLICATE, FORMED));
    }

    private static void keepsOnLinkPrefixes() {
        check.under("Heard of a prefix, with flags 0 .. 3 and its lives.");
        LinkHost host = Hosts.withPrefix(7);
        for (int prefix = 11; prefix <= 14; prefix++) {
            host.prefix(prefix, 1, prefix == 14 ? 5 : 1000, 1000);
        }
        check.due("four", host.count(3), 4);
        check.due("the first one went", host.send(Hosts.address(5, 9), 5), 3);
        check.due("the second is there", host.send(Hosts.address(11, 9), 5), 1);
        host.prefix(11, 1, 1000, 0);
        check.due("told again", host.count(3), 4);
        host.prefix(15, 1, 1000, 0);
        check.due("it kept its place", host.send(Hosts.address(11, 9), 5), 3);
        host.tick(4);
        check.due("before an end", host.count(3), 4);
        host.tick(1);
        check.due("at an end", host.count(3), 3);
        check.due("it is none", host.send(Hosts.address(14, 9), 5), 3);
        host.prefix(12, 1, 0, 0);
        check.due("valid life 0", host.count(3), 2);
        host.prefix(13, 2, 0, 0);
        host.prefix(13, 0, 0, 0);
        check.due("not without the flag", host.count(3), 2);
        check.due("no address is formed", host.count(1), 2);
    }

    private static void leavesLocalAlone() {
        check.under("HEARD OF A PREFIX, if it is not LOCAL, with a valid and a preferred life:");
        LinkHost host = Hosts.ready(7);
        host.prefix(1, 3, 10, 0);
        check.due("preferred", host.own(0), Hosts.owned(Hosts.PREFERRED, Hosts.local(7)));
        check.due("without end", host.until(0), -1);
        check.due("no on-link prefix", host.count(3), 0);
    }

    private static void refusesWrongArguments() {
        check.under("IllegalArgumentException: the prefix is not 1 .. 250, the flags are not 0 .. "
                + "3, or a life not 0 .. 1000.");
        int[][] wrong = {
            {0, 3, 1, 1}, {251, 3, 1, 1}, {-1, 3, 1, 1}, {5, -1, 1, 1}, {5, 4, 1, 1},
            {5, 3, -1, 1}, {5, 3, 1001, 1}, {5, 3, 1, -1}, {5, 3, 1, 1001},
        };
        LinkHost host = Hosts.ready(7);
        LinkHost down = Hosts.down(7);
        for (int[] w : wrong) {
            String call = "prefix(" + w[0] + ", " + w[1] + ", " + w[2] + ", " + w[3] + ")";
            check.badArgument(call, () -> host.prefix(w[0], w[1], w[2], w[3]));
            check.badArgument(call + " while down", () -> down.prefix(w[0], w[1], w[2], w[3]));
        }
        check.due("nothing is formed", host.count(1), 1);
        check.due("nothing is on link", host.count(3), 0);
        host.prefix(250, 3, 1000, 1000);
        host.prefix(2, 0, 0, 0);
        check.due("the edges are right", host.own(1),
                Hosts.owned(Hosts.TENTATIVE, Hosts.address(250, 7)));
    }

    private static void refusesWhileDown() {
        check.under("IllegalStateException: the host is down.");
        LinkHost down = Hosts.down(7);
        check.badState("prefix", () -> down.prefix(5, 3, 10, 10));
        check.badState("prefix of LOCAL", () -> down.prefix(1, 3, 10, 10));
        check.due("own addresses", down.count(1), 1);
        check.due("on-link prefixes", down.count(3), 0);
    }
}
