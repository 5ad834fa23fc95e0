/** Lives: one tick before their end, at it, and those that never end. */
public final class LifeEdgeTest {
    private static final Check check = new Check("LifeEdgeTest");
    private static final int FORMED = Hosts.address(5, 7);
    private static final int OWNS = 1;
    private static final int ROUTERS = 2;
    private static final int PREFIXES = 3;
    private static final int[] LIVES = {1, 2, 3, 4, 19, 20, 21, 99, 100, 101, 998, 999};
    private static final int[] STARTS = {0, 1, 2, 3, 101};

    public static void main(String[] args) {
        eachFlagByItself();
        livesEndAtThenPlusTheLife();
        livesOfAThousandNeverEnd();
        preferredLifeEnds();
        preferredLifeOverBeforeItIsPreferred();
        preferredLifeIsNotGreaterThanTheValidOne();
        validLifeZero();
        validLifeGoesBeforeAllElse();
        localLivesForEver();
        aLaterLifeTakesThePlaceOfTheEarlier();
        renewsTheValidLife();
        renewsAnEndlessLife();
        check.end();
    }

    private static LinkHost at(int time) {
        LinkHost host = new LinkHost(7);
        Hosts.pass(host, time);
        return host;
    }

    private static void hear(LinkHost host, int row, int life) {
        if (row == ROUTERS) {
            host.router(9, 3, life, 0);
        } else {
            host.prefix(5, row == OWNS ? 2 : 1, life, 0);
        }
    }

    /** How many a new host has in that row. */
    private static int atFirst(int row) {
        return row == OWNS ? 1 : 0;
    }

    private static void eachFlagByItself() {
        check.under("if it tells ON-LINK (flag 1) .. If it tells FORM (flag 2)");
        for (int flags = 0; flags <= 3; flags++) {
            LinkHost host = at(2);
            host.prefix(5, flags, 1, 1);
            check.due("flags " + flags + ": on link", host.count(3), flags % 2);
            check.due("flags " + flags + ": formed", host.count(1), 1 + flags / 2);
            LinkHost there = at(2);
            there.prefix(5, 3, 500, 500);
            there.prefix(5, flags, 0, 0);
            check.due("flags " + flags + ": on link still", there.count(3), 1 - flags % 2);
            check.due("flags " + flags + ": until", there.until(1), flags >= 2 ? 22 : 502);
        }
    }

    private static void livesEndAtThenPlusTheLife() {
        check.under("a LIFE l ends at the time then + l");
        for (int row = OWNS; row <= PREFIXES; row++) {
            for (int start : STARTS) {
                for (int life : LIVES) {
                    String what = "row " + row + ", life " + life + " from " + start;
                    LinkHost host = at(start);
                    hear(host, row, life);
                    if (row == OWNS) {
                        check.due(what + ": until", host.until(1), start + life);
                    }
                    Hosts.pass(host, life - 1);
                    check.due(what + ": before", host.count(row), atFirst(row) + 1);
                    host.tick(1);
                    check.due(what + ": at its end", host.count(row), atFirst(row));
                    host.tick(1);
                    check.due(what + ": after it", host.count(row), atFirst(row));
                }
            }
        }
    }

    private static void livesOfAThousandNeverEnd() {
        check.under("1000 never ends.");
        for (int row = OWNS; row <= PREFIXES; row++) {
            LinkHost host = at(2);
            hear(host, row, 1000);
            for (int ticks : new int[] {999, 1, 1, 9000, 30000}) {
                Hosts.pass(host, ticks);
                check.due("row " + row + ", time " + host.count(0), host.count(row),
                        atFirst(row) + 1);
            }
            check.due("time", host.count(0), 40003);
        }
        LinkHost preferred = at(2);
        preferred.prefix(5, 2, 1000, 1000);
        check.due("until", preferred.until(1), -1);
        LinkHost shorter = at(2);
        shorter.prefix(5, 2, 1000, 999);
        Hosts.pass(preferred, 998);
        Hosts.pass(shorter, 998);
        check.due("999, before", shorter.own(1), Hosts.owned(Hosts.PREFERRED, FORMED));
        preferred.tick(1);
        shorter.tick(1);
        check.due("999, at its end", shorter.own(1), Hosts.owned(Hosts.DEPRECATED, FORMED));
        for (int ticks : new int[] {1, 1, 9000, 30000}) {
            Hosts.pass(preferred, ticks);
            check.due("1000", preferred.own(1), Hosts.owned(Hosts.PREFERRED, FORMED));
        }
    }

    private static void preferredLifeEnds() {
        check.under("When the preferred life is over, a preferred one is deprecated");
        for (int life : new int[] {3, 4, 20, 21, 100, 999}) {
            LinkHost host = at(2);
            host.prefix(5, 2, 1000, life);
            Hosts.pass(host, life - 1);
            check.due(life + ", before", host.own(1), Hosts.owned(Hosts.PREFERRED, FORMED));
            host.tick(1);
            check.due(life + ", at its end", host.own(1), Hosts.owned(Hosts.DEPRECATED, FORMED));
        }
        LinkHost both = at(2);
        both.prefix(5, 2, 10, 10);
        both.tick(9);
        check.due("before both ends", both.own(1), Hosts.owned(Hosts.PREFERRED, FORMED));
        both.tick(1);
        check.due("taken away at both ends", both.count(1), 1);
        LinkHost apart = at(2);
        apart.prefix(5, 2, 10, 9);
        apart.tick(9);
        check.due("between the ends", apart.own(1), Hosts.owned(Hosts.DEPRECATED, FORMED));
    }

    private static void preferredLifeOverBeforeItIsPreferred() {
        check.under("it is preferred (or deprecated, if its preferred life is over)");
        for (int life = 0; life <= 4; life++) {
            LinkHost host = at(2);
            host.prefix(5, 2, 1000, life);
            host.tick(1);
            check.due(life + ", one tick", host.own(1), Hosts.owned(Hosts.TENTATIVE, FORMED));
            host.tick(1);
            check.due(life + ", two ticks", host.own(1),
                    Hosts.owned(life > 2 ? Hosts.PREFERRED : Hosts.DEPRECATED, FORMED));
        }
        check.under("its preferred life is that told (if it is not tentative, it is preferred, or "
                + "deprecated if that is 0)");
        for (int life = 0; life <= 2; life++) {
            LinkHost host = at(2);
            host.prefix(5, 2, 1000, 500);
            host.prefix(5, 2, 1000, life);
            check.due(life + ", tentative", host.own(1), Hosts.owned(Hosts.TENTATIVE, FORMED));
            host.tick(2);
            check.due(life + ", over", host.own(1), Hosts.owned(Hosts.DEPRECATED, FORMED));
            host.prefix(5, 2, 1000, life);
            check.due(life + ", told again", host.own(1),
                    Hosts.owned(life > 0 ? Hosts.PREFERRED : Hosts.DEPRECATED, FORMED));
        }
        LinkHost renewed = at(2);
        renewed.prefix(5, 2, 1000, 0);
        renewed.tick(1);
        renewed.prefix(5, 2, 1000, 2);
        check.due("told while tentative", renewed.own(1), Hosts.owned(Hosts.TENTATIVE, FORMED));
        renewed.tick(1);
        check.due("renewed while tentative", renewed.own(1),
                Hosts.owned(Hosts.PREFERRED, FORMED));
        renewed.tick(1);
        check.due("and over then", renewed.own(1), Hosts.owned(Hosts.DEPRECATED, FORMED));
    }

    private static void preferredLifeIsNotGreaterThanTheValidOne() {
        check.under("and the preferred life is not greater than the valid one");
        int[][] validAndPreferred = {
            {1, 0}, {1, 1}, {1, 2}, {20, 19}, {20, 20}, {20, 21}, {999, 998}, {999, 999},
            {999, 1000}, {1000, 999}, {1000, 1000}, {0, 1}, {0, 1000}, {1, 1000},
        };
        for (int[] lives : validAndPreferred) {
            String what = "valid " + lives[0] + ", preferred " + lives[1];
            boolean heard = lives[1] <= lives[0];
            LinkHost host = at(2);
            host.prefix(5, 3, lives[0], lives[1]);
            check.due(what + ": formed", host.count(1), heard ? 2 : 1);
            check.due(what + ": on link all the same", host.count(3), lives[0] == 0 ? 0 : 1);
            check.due(what + ": sent", host.count(6), heard ? 3 : 2);
            LinkHost there = at(2);
            there.prefix(5, 2, 500, 0);
            there.tick(2);
            there.prefix(5, 2, lives[0], lives[1]);
            int state = heard && lives[1] > 0 ? Hosts.PREFERRED : Hosts.DEPRECATED;
            check.due(what + ": changed", there.own(1), Hosts.owned(state, FORMED));
            check.due(what + ": its end is the old one", there.until(1) == 502 ? 1 : 0,
                    heard ? 0 : 1);
        }
    }

    private static void validLifeZero() {
        check.under("if the valid life is not 0");
        LinkHost host = at(2);
        host.prefix(5, 2, 0, 0);
        check.due("0: not formed", host.count(1), 1);
        check.due("0: not probed", host.count(6), 2);
        host.prefix(5, 2, 1, 0);
        check.due("1: formed", host.count(1), 2);
        check.due("1: probed", host.count(6), 3);
        check.under("valid life 0: it is none any more");
        LinkHost onLink = at(2);
        onLink.prefix(5, 1, 0, 0);
        check.due("it was none", onLink.count(3), 0);
        onLink.prefix(5, 1, 1, 0);
        check.due("1", onLink.count(3), 1);
        onLink.prefix(6, 1, 0, 0);
        check.due("another one", onLink.count(3), 1);
        onLink.prefix(5, 1, 0, 0);
        check.due("0", onLink.count(3), 0);
        check.under("Its life 0: r goes from the ROUTERS");
        LinkHost routed = at(2);
        routed.router(9, 3, 0, 0);
        check.due("it was none", routed.count(2), 0);
        routed.router(9, 3, 1, 0);
        check.due("1", routed.count(2), 1);
        routed.router(10, 3, 0, 0);
        check.due("another one", routed.count(2), 1);
        routed.router(9, 3, 0, 0);
        check.due("0", routed.count(2), 0);
        check.due("the neighbours stay", routed.count(4), 2);
    }

    private static void validLifeGoesBeforeAllElse() {
        check.under("it is taken away (a duplicate one, too; this goes before all else in a tick)");
        LinkHost probing = at(2);
        probing.prefix(5, 2, 1, 1);
        probing.prefix(6, 2, 2, 2);
        probing.tick(1);
        check.due("no probe of one that went", probing.count(6), 5);
        check.out("but of the other", probing, 0, 1, Hosts.GROUP, Hosts.address(6, 7));
        check.due("one went", probing.count(1), 2);
        probing.tick(1);
        check.due("both went", probing.count(1), 1);
        check.due("no more probes", probing.count(6), 5);
        for (int life : new int[] {1, 2, 3, 50}) {
            LinkHost duplicate = at(2);
            duplicate.prefix(5, 2, life, 0);
            duplicate.told(FORMED, 3, 0);
            Hosts.pass(duplicate, life - 1);
            check.due("a duplicate one", duplicate.own(1), Hosts.owned(Hosts.DUPLICATE, FORMED));
            duplicate.tick(1);
            check.due("taken away, too", duplicate.count(1), 1);
            duplicate.prefix(5, 2, 10, 5);
            check.due("formed anew", duplicate.own(1), Hosts.owned(Hosts.TENTATIVE, FORMED));
        }
    }

    private static void localLivesForEver() {
        check.under("With the host's id, LOCAL is formed at the beginning, with lives that never "
                + "end.");
        LinkHost host = at(1);
        check.due("until, tentative", host.until(0), -1);
        host.tick(1);
        for (int ticks : new int[] {997, 1, 1, 1, 40000}) {
            Hosts.pass(host, ticks);
            check.due("time " + host.count(0), host.own(0),
                    Hosts.owned(Hosts.PREFERRED, Hosts.local(7)));
        }
        check.due("until", host.until(0), -1);
        check.under("HEARD OF A PREFIX, if it is not LOCAL");
        for (int flags = 0; flags <= 3; flags++) {
            host.prefix(1, flags, 0, 0);
            host.prefix(1, flags, 10, 5);
            host.prefix(1, flags, 10, 0);
        }
        check.due("on link", host.count(3), 0);
        check.due("until", host.until(0), -1);
        check.due("preferred", host.own(0), Hosts.owned(Hosts.PREFERRED, Hosts.local(7)));
        host.prefix(2, 3, 10, 5);
        check.due("2 is not LOCAL: on link", host.count(3), 1);
        check.due("2 is not LOCAL: formed", host.own(1),
                Hosts.owned(Hosts.TENTATIVE, Hosts.address(2, 7)));
    }

    private static void aLaterLifeTakesThePlaceOfTheEarlier() {
        int[][] firstAndThen = {{10, 5}, {5, 10}, {1000, 3}, {3, 1000}, {999, 1}, {1, 999}};
        for (int row = ROUTERS; row <= PREFIXES; row++) {
            check.under(row == ROUTERS ? "else it is among them until its life ends."
                    : "else it is one until that ends.");
            for (int[] lives : firstAndThen) {
                String what = "row " + row + ", " + lives[0] + " and then " + lives[1];
                LinkHost host = at(2);
                hear(host, row, lives[0]);
                hear(host, row, lives[1]);
                check.due(what + ": one", host.count(row), 1);
                Hosts.pass(host, lives[1] == 1000 ? 2000 : lives[1] - 1);
                check.due(what + ": before", host.count(row), 1);
                host.tick(1);
                check.due(what + ": at its end", host.count(row), lives[1] == 1000 ? 1 : 0);
            }
        }
    }

    /** By the document's words; 1000 stands for a life that never ends. */
    private static int renewed(int left, int told) {
        if (told > 20 || told > left) {
            return told;
        }
        return left > 20 ? 20 : left;
    }

    private static void renewsTheValidLife() {
        check.under("its valid life is that told, if that is more than 20, or more than what it "
                + "has left; otherwise, if it has more than 20 left, it has 20.");
        for (int left = 1; left <= 42; left++) {
            for (int told = 0; told <= 42; told++) {
                renewsOne(left, told);
            }
            renewsOne(left, 999);
            renewsOne(left, 1000);
        }
        for (int told : new int[] {0, 1, 19, 20, 21, 22, 901, 902, 903, 998, 999, 1000}) {
            renewsOne(902, told);
            renewsOne(999, told);
        }
    }

    private static void renewsOne(int left, int told) {
        LinkHost host = at(2);
        int later = left % 5 == 0 && left < 990 ? 5 : 0;
        host.prefix(5, 2, left + later, 0);
        Hosts.pass(host, later);
        host.prefix(5, 2, told, 0);
        int due = renewed(left, told);
        check.due(left + " left, told " + told, host.until(1), due == 1000 ? -1 : 2 + later + due);
    }

    private static void renewsAnEndlessLife() {
        for (int told : new int[] {0, 1, 19, 20, 21, 22, 999, 1000}) {
            LinkHost host = at(2);
            host.prefix(5, 2, 1000, 0);
            Hosts.pass(host, 40000);
            host.prefix(5, 2, told, 0);
            check.due("endless, told " + told, host.until(1),
                    told == 1000 ? -1 : 40002 + Math.max(told, 20));
        }
        LinkHost cut = at(2);
        cut.prefix(5, 2, 1000, 0);
        cut.prefix(5, 2, 0, 0);
        cut.tick(19);
        check.due("before 20 ticks", cut.count(1), 2);
        cut.tick(1);
        check.due("after 20 ticks", cut.count(1), 1);
        check.under("else, unless it is duplicate");
        LinkHost duplicate = at(2);
        duplicate.prefix(5, 2, 100, 50);
        duplicate.told(FORMED, 3, 0);
        for (int told : new int[] {0, 20, 21, 99, 101, 1000}) {
            duplicate.prefix(5, 2, told, told);
            check.due("until, told " + told, duplicate.until(1), 102);
            check.due("state, told " + told, duplicate.own(1),
                    Hosts.owned(Hosts.DUPLICATE, FORMED));
        }
    }
}
