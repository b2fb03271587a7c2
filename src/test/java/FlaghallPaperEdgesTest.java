/**
 * Each sentence of the document on papers, sales by court and questions that names a boundary: a method
 * a sentence, in the document's order, as FlaghallShipEdgesTest does it for parties, ships and flags.
 */
public final class FlaghallPaperEdgesTest {
    private static final Class<?> INDEX = IndexOutOfBoundsException.class;
    private static final Class<?> ARGUMENT = IllegalArgumentException.class;
    private static final Class<?> STATE = IllegalStateException.class;

    private static final int NONE = -1;
    private static final int MIN = Integer.MIN_VALUE;
    private static final int MAX = Integer.MAX_VALUE;
    private static final int DAY = 1440;
    private static final int NOTICE_HOLDS = 14 * DAY;
    private static final int LIEN_LASTS = 365 * DAY;
    private static final int MOST_AMOUNT = 1000000000;
    private static final int MOST_PRICE = 2000000000;

    private static int wrong = 0;

    private interface Call {
        void run();
    }

    private static void same(String what, long got, long want) {
        if (got != want) {
            wrong++;
            System.out.println(what + " answered " + got + ", due is " + want);
        }
    }

    private static void refused(String what, Class<?> want, Call call) {
        Class<?> got = null;
        try {
            call.run();
        } catch (RuntimeException e) {
            got = e.getClass();
        }
        if (got != want) {
            wrong++;
            System.out.println(what + " threw " + got + ", due is " + want);
        }
    }

    public static void main(String[] args) {
        entering();
        places();
        discharges();
        liensByLaw();
        courts();
        searches();
        questions();
        System.out.println(wrong == 0 ? "all edges of papers hold" : wrong + " answers are wrong");
        if (wrong != 0) {
            System.exit(1);
        }
    }

    // ---- beginnings

    /** People 0 to 3 of land 0, ship 0 "b" of party 0, and ship 1 "c" of party 1. */
    private static Flaghall harbour() {
        Flaghall x = new Flaghall();
        for (int i = 0; i <= 3; i++) {
            x.person(0);
        }
        x.letter('b');
        x.ship(0);
        x.letter('c');
        x.ship(1);
        return x;
    }

    /** Ten people, and ship 0 "b" of party 0. */
    private static Flaghall crowd() {
        Flaghall x = new Flaghall();
        for (int i = 0; i < 10; i++) {
            x.person(0);
        }
        x.letter('b');
        x.ship(0);
        return x;
    }

    /** Asks for all ranks of a ship by searching now. */
    private static void standing(String what, Flaghall x, int ship, long now, int... due) {
        for (int rank = 0; rank < due.length; rank++) {
            same(what + ", rank " + rank, x.search(ship, now, rank), due[rank]);
            same(what + ", the rank of " + due[rank], x.rank(due[rank]), rank);
        }
        same(what + ", no more", x.search(ship, now, due.length), NONE);
    }

    // ---- Papers

    private static void entering() {
        noPaperYet();
        aPaperNeedsAShipAndAParty();
        papersAreCounted();
        atMost60PapersOfAnyKind();
        theSixtiethPaperWorks();
        mortgageAmounts();
        mortgagesAreNumbered();
    }

    private static void noPaperYet() {
        Flaghall x = harbour();
        for (int bad : new int[] {MIN, -1, 0, 1, 59, 60, MAX}) {
            refused("rank of " + bad, INDEX, () -> x.rank(bad));
            refused("discharge of " + bad, INDEX, () -> x.discharge(bad, true));
            refused("restoring of " + bad, INDEX, () -> x.discharge(bad, false));
        }
        same("a search", x.search(0, 0, 0), NONE);
        same("liens", x.liens(0), 0);
        same("got", x.got(0), 0);
        same("the first paper", x.notice(0, 0), 1);
        refused("a notice is no mortgage", INDEX, () -> x.rank(0));
        x.lien(0, 0, 0, 1);
        refused("a lien is no mortgage", INDEX, () -> x.rank(0));
        same("the first mortgage", x.mortgage(0, 0, 1), 0);
        same("its rank", x.rank(0), 0);
        for (int bad : new int[] {MIN, -1, 1, 2, 60, MAX}) {
            refused("rank of " + bad + " then", INDEX, () -> x.rank(bad));
            refused("discharge of " + bad + " then", INDEX, () -> x.discharge(bad, true));
        }
    }

    /** "there is no such [..] party, ship": on both sides of those that are, and with none of them. */
    private static void aPaperNeedsAShipAndAParty() {
        Flaghall empty = new Flaghall();
        paperRefused(empty, 0, 0);
        empty.person(0);
        paperRefused(empty, 0, 0);
        Flaghall x = harbour();
        for (int bad : new int[] {MIN, -1, 2, 6, MAX}) {
            paperRefused(x, bad, 0);
            refused("search of ship " + bad, INDEX, () -> x.search(bad, 0, 0));
            refused("liens of ship " + bad, INDEX, () -> x.liens(bad));
        }
        for (int bad : new int[] {MIN, -1, 4, 10, MAX}) {
            paperRefused(x, 0, bad);
            refused("got of party " + bad, INDEX, () -> x.got(bad));
        }
        same("the last of both", x.notice(1, 3), 1);
        same("the last of both, mortgage", x.mortgage(1, 3, 1), 0);
        same("the last of both, lien", x.lien(1, 3, 0, 1), 3);
        same("the last of both, court", x.court(1, 3, 2), 0);
        same("the last of both, got", x.got(3), 2);
        same("the last of both, share", x.share(1, 3), 64);
        same("the first of both", x.notice(0, 0), 5);
        same("the first of both, mortgage", x.mortgage(0, 0, 1), 1);
        same("the first of both, lien", x.lien(0, 0, 0, 1), 7);
        same("the first of both, court", x.court(0, 0, 2), 0);
    }

    private static void paperRefused(Flaghall x, int ship, int party) {
        refused("notice", INDEX, () -> x.notice(ship, party));
        refused("mortgage", INDEX, () -> x.mortgage(ship, party, 1));
        refused("lien", INDEX, () -> x.lien(ship, party, 0, 1));
        refused("court", INDEX, () -> x.court(ship, party, 1));
    }

    /** "Returns how many papers there are.": all kinds, of all ships, over or not. */
    private static void papersAreCounted() {
        Flaghall x = harbour();
        same("a notice", x.notice(0, 0), 1);
        same("a lien", x.lien(0, 0, 0, 1), 2);
        x.mortgage(0, 0, 1);
        same("behind a mortgage", x.notice(1, 0), 4);
        x.discharge(0, true);
        same("behind a discharge", x.lien(1, 0, 0, 1), 6);
        x.discharge(0, false);
        same("behind a restoring", x.notice(0, 0), 8);
        x.court(0, 0, 1);
        same("behind a sale", x.lien(0, 0, 0, 1), 10);
        x.pass(1000000);
        same("behind many minutes", x.notice(0, 0), 11);
    }

    /** Enters one paper of a kind; for the kinds 2 and 3 mortgages 0 and 1 must be there, 1 discharged. */
    private static void enter(Flaghall x, int kind) {
        switch (kind) {
            case 0:
                x.notice(0, 0);
                break;
            case 1:
                x.mortgage(0, 0, 1);
                break;
            case 2:
                x.discharge(0, true);
                break;
            case 3:
                x.discharge(1, false);
                break;
            case 4:
                x.lien(0, 0, 0, 1);
                break;
            default:
                x.court(0, 0, 1);
                break;
        }
    }

    /** A book of so many papers; mortgage 0 stands, and mortgage 1 is discharged. */
    private static Flaghall bookOf(int papers) {
        Flaghall x = harbour();
        x.mortgage(0, 0, 1);
        x.mortgage(0, 1, 1);
        x.discharge(1, true);
        for (int i = 4; i <= papers; i++) {
            same("paper " + i, x.notice(1, 1), i);
        }
        return x;
    }

    /** "if there are 60 papers": the 60th of each kind is entered, the 61st of each kind is refused. */
    private static void atMost60PapersOfAnyKind() {
        for (int last = 0; last <= 5; last++) {
            Flaghall x = bookOf(58);
            x.notice(1, 1);
            int kind = last;
            enter(x, kind);
            refused("a notice as paper 61", STATE, () -> x.notice(1, 0));
            refused("a mortgage as paper 61", STATE, () -> x.mortgage(1, 0, 1));
            refused("a discharge as paper 61", STATE, () -> x.discharge(0, true));
            refused("another as paper 61", STATE, () -> x.discharge(0, false));
            refused("a restoring as paper 61", STATE, () -> x.discharge(1, false));
            refused("the other as paper 61", STATE, () -> x.discharge(1, true));
            refused("a lien as paper 61", STATE, () -> x.lien(1, 0, 0, 1));
            refused("a sale as paper 61", STATE, () -> x.court(1, 0, 1));
            x.pass(1000000);
            refused("a notice later", STATE, () -> x.notice(1, 0));
        }
    }

    private static void theSixtiethPaperWorks() {
        Flaghall x = bookOf(59);
        same("a notice", x.notice(0, 0), 60);
        x = bookOf(59);
        same("a lien", x.lien(0, 0, 3, 7), 60);
        same("it is there", x.liens(0), 1);
        x = bookOf(59);
        same("a mortgage", x.mortgage(0, 0, 1), 2);
        same("its rank", x.rank(2), 1);
        same("by search", x.search(0, 0, 1), 2);
        x = bookOf(59);
        x.discharge(0, true);
        same("discharged", x.rank(0), NONE);
        same("by search too", x.search(0, 0, 0), NONE);
        x = bookOf(59);
        x.discharge(1, false);
        same("restored", x.rank(1), 1);
        same("by search also", x.search(0, 0, 1), 1);
        x = bookOf(59);
        same("a sale", x.court(0, 3, 65), 0);
        same("its mortgage and the rest", x.got(0), 65);
        same("its buyer", x.share(0, 3), 64);
        same("what is over", x.rank(0), NONE);
        x = harbour();
        for (int i = 0; i < 59; i++) {
            x.mortgage(0, 2, 1);
        }
        same("the 60th mortgage", x.mortgage(0, 2, 1), 59);
        same("its rank of 60", x.rank(59), 59);
        same("search for it", x.search(0, 0, 59), 59);
        same("and beyond", x.search(0, 0, 60), NONE);
        x = harbour();
        for (int i = 1; i <= 60; i++) {
            same("lien " + i, x.lien(0, 2, 1, 1), i);
        }
        same("60 liens", x.liens(0), 60);
        x = harbour();
        for (int i = 1; i <= 60; i++) {
            x.court(0, i % 4, MOST_PRICE);
        }
        same("sixty sales, 15 of party 1's ship", x.got(1), 15L * MOST_PRICE);
        same("and 15 of party 0's", x.got(0), 15L * MOST_PRICE);
        same("the last buyer", x.share(0, 0), 64);
    }

    /** "amount: 1 to 1000000000", of a mortgage. */
    private static void mortgageAmounts() {
        Flaghall x = harbour();
        for (int bad : new int[] {MIN, -MOST_AMOUNT, -1, 0, MOST_AMOUNT + 1, MOST_PRICE, MAX}) {
            refused("mortgage of " + bad, ARGUMENT, () -> x.mortgage(0, 1, bad));
        }
        same("the least", x.mortgage(0, 1, 1), 0);
        same("the most", x.mortgage(0, 2, MOST_AMOUNT), 1);
        same("the most is paid", x.court(0, 3, MOST_AMOUNT + 2), 0);
        same("to one the least", x.got(1), 1);
        same("to the other the most", x.got(2), MOST_AMOUNT);
        same("and the rest to the owner", x.got(0), 1);
    }

    /** "Returns its number, from 0.": of all ships together, over and discharged ones too. */
    private static void mortgagesAreNumbered() {
        Flaghall x = harbour();
        same("the first", x.mortgage(0, 0, 1), 0);
        same("on the other ship", x.mortgage(1, 0, 1), 1);
        x.discharge(1, true);
        same("behind a discharge", x.mortgage(1, 0, 1), 2);
        x.court(0, 0, 1);
        same("behind a sale", x.mortgage(0, 0, 1), 3);
        refused("a number to come", INDEX, () -> x.rank(4));
        same("the first on its ship", x.rank(3), 0);
        same("the first on the other", x.rank(2), 0);
    }

    // ---- the places of mortgages

    private static void places() {
        ranksGoByPlaces();
        notices14DaysOld();
        theFirstNotice();
        aNoticeOfThatPartyForThatShip();
        aNoticeThatHasAMortgage();
        aNoticeBehindTheMortgage();
        placesBetweenOthers();
    }

    /** "go by their places, from 0", each its own without a notice. */
    private static void ranksGoByPlaces() {
        Flaghall x = harbour();
        standing("none", x, 0, 0);
        x.mortgage(0, 1, 1);
        standing("one", x, 0, 0, 0);
        x.mortgage(1, 1, 1);
        standing("one and another ship's", x, 0, 0, 0);
        standing("that ship's", x, 1, 0, 1);
        x.mortgage(0, 2, 1);
        x.mortgage(0, 1, 1);
        standing("three", x, 0, 0, 0, 2, 3);
        standing("that ship's still", x, 1, 0, 1);
    }

    /** "that is not more than 14 days old": 20160 minutes hold, 20161 do not. */
    private static void notices14DaysOld() {
        for (int before : new int[] {0, 1, 5000}) {
            for (int age : new int[] {0, 1, NOTICE_HOLDS - 1, NOTICE_HOLDS, NOTICE_HOLDS + 1, NOTICE_HOLDS + 2, 1000000}) {
                Flaghall x = harbour();
                if (before > 0) {
                    x.pass(before);
                }
                x.notice(0, 1);
                x.mortgage(0, 2, 1);
                if (age > 0) {
                    x.pass(age);
                }
                x.mortgage(0, 1, 1);
                boolean holds = age <= 20160;
                same("a notice " + age + " minutes old", x.rank(1), holds ? 0 : 1);
                same("the one behind or before it", x.rank(0), holds ? 1 : 0);
            }
        }
        Flaghall y = harbour();
        y.notice(0, 1);
        y.mortgage(0, 2, 1);
        for (int day = 0; day < 14; day++) {
            y.pass(DAY);
        }
        y.mortgage(0, 1, 1);
        y.pass(1000000);
        standing("the place stays when the notice is old", y, 0, 14 * DAY + 1000000, 1, 0);
    }

    /** "the first notice of that party for that ship", of those that hold. */
    private static void theFirstNotice() {
        Flaghall x = harbour();
        x.notice(0, 1);
        x.mortgage(0, 2, 1);
        x.notice(0, 1);
        x.mortgage(0, 2, 1);
        x.pass(NOTICE_HOLDS);
        x.mortgage(0, 1, 1);
        standing("the first", x, 0, NOTICE_HOLDS, 2, 0, 1);
        x.mortgage(0, 1, 1);
        standing("then the second", x, 0, NOTICE_HOLDS, 2, 0, 3, 1);
        x.mortgage(0, 1, 1);
        standing("then its own", x, 0, NOTICE_HOLDS, 2, 0, 3, 1, 4);
        Flaghall y = harbour();
        y.notice(0, 1);
        y.mortgage(0, 2, 1);
        y.pass(1);
        y.notice(0, 1);
        y.mortgage(0, 2, 1);
        y.pass(NOTICE_HOLDS);
        y.mortgage(0, 1, 1);
        standing("the first is too old", y, 0, NOTICE_HOLDS + 1, 0, 2, 1);
        y.mortgage(0, 1, 1);
        standing("and is never taken", y, 0, NOTICE_HOLDS + 1, 0, 2, 1, 3);
    }

    private static void aNoticeOfThatPartyForThatShip() {
        Flaghall x = harbour();
        x.notice(0, 1);
        x.notice(1, 2);
        x.mortgage(0, 3, 1);
        x.mortgage(0, 2, 1);
        standing("another party's, and another ship's", x, 0, 0, 0, 1);
        x.mortgage(1, 3, 1);
        x.mortgage(1, 1, 1);
        standing("the same on the other ship", x, 1, 0, 2, 3);
        x.mortgage(0, 1, 1);
        x.mortgage(1, 2, 1);
        standing("that party for that ship", x, 0, 0, 4, 0, 1);
        standing("the other for the other", x, 1, 0, 5, 2, 3);
    }

    /** "and has no mortgage yet, discharged or not". */
    private static void aNoticeThatHasAMortgage() {
        Flaghall x = harbour();
        x.notice(0, 1);
        x.mortgage(0, 2, 1);
        x.mortgage(0, 1, 1);
        x.mortgage(0, 1, 1);
        standing("one only", x, 0, 0, 1, 0, 2);
        x.discharge(1, true);
        x.mortgage(0, 1, 1);
        standing("one only, discharged", x, 0, 0, 0, 2, 3);
        x.discharge(1, false);
        standing("which has it still", x, 0, 0, 1, 0, 2, 3);
        x.mortgage(0, 1, 1);
        standing("one only, restored", x, 0, 0, 1, 0, 2, 3, 4);
    }

    private static void aNoticeBehindTheMortgage() {
        Flaghall x = harbour();
        x.mortgage(0, 1, 1);
        x.mortgage(0, 2, 1);
        x.notice(0, 1);
        x.mortgage(0, 2, 1);
        standing("a notice does nothing for what came before", x, 0, 0, 0, 1, 2);
        x.discharge(0, true);
        x.discharge(0, false);
        standing("nor for what is restored", x, 0, 0, 0, 1, 2);
        x.mortgage(0, 1, 1);
        standing("but for the next one", x, 0, 0, 0, 1, 3, 2);
    }

    private static void placesBetweenOthers() {
        Flaghall x = harbour();
        x.notice(0, 3);
        x.mortgage(0, 0, 1);
        x.notice(0, 2);
        x.mortgage(0, 0, 1);
        x.notice(0, 1);
        x.mortgage(0, 0, 1);
        x.mortgage(0, 1, 1);
        standing("the third notice", x, 0, 0, 0, 1, 3, 2);
        x.mortgage(0, 2, 1);
        standing("the second notice", x, 0, 0, 0, 4, 1, 3, 2);
        x.mortgage(0, 3, 1);
        standing("the first notice", x, 0, 0, 5, 0, 4, 1, 3, 2);
    }

    // ---- discharges

    private static void discharges() {
        soAlready();
        restoredAsItWas();
        overByASale();
        dischargedIsOverToo();
    }

    /** "it is so already", on both sides, at first and behind each change. */
    private static void soAlready() {
        Flaghall x = harbour();
        x.mortgage(0, 0, 1);
        for (int i = 0; i < 3; i++) {
            refused("restoring what stands", STATE, () -> x.discharge(0, false));
            same("it stands", x.rank(0), 0);
            x.discharge(0, true);
            refused("discharging what is discharged", STATE, () -> x.discharge(0, true));
            same("it is discharged", x.rank(0), NONE);
            x.discharge(0, false);
        }
        same("what was refused is no paper", x.notice(0, 0), 8);
    }

    /** "restoring it lets it be again as it was": its place, its amount, however late. */
    private static void restoredAsItWas() {
        Flaghall x = harbour();
        x.notice(0, 1);
        x.mortgage(0, 2, 5);
        x.mortgage(0, 1, 7);
        x.mortgage(0, 3, 9);
        x.discharge(0, true);
        x.discharge(1, true);
        standing("two are discharged", x, 0, 0, 2);
        x.pass(1000000);
        x.discharge(0, false);
        standing("one stands again", x, 0, 1000000, 0, 2);
        x.discharge(1, false);
        standing("the other at its notice's place", x, 0, 1000000, 1, 0, 2);
        x.discharge(2, true);
        same("they share the price by rank", x.court(0, 3, 10), 0);
        same("the first gets all", x.got(1), 7);
        same("the second the rest", x.got(2), 3);
        same("the discharged one nothing", x.got(3), 0);
    }

    /** "it is over by a sale". */
    private static void overByASale() {
        Flaghall x = harbour();
        x.mortgage(0, 0, 1);
        x.mortgage(1, 0, 1);
        x.court(0, 0, 1);
        refused("discharging what is over", STATE, () -> x.discharge(0, true));
        refused("restoring what is over", STATE, () -> x.discharge(0, false));
        x.discharge(1, true);
        same("the other ship's is discharged", x.rank(1), NONE);
        x.discharge(1, false);
        same("and stands again", x.rank(1), 0);
        x.mortgage(0, 0, 1);
        refused("still over", STATE, () -> x.discharge(0, true));
        x.discharge(2, true);
        x.discharge(2, false);
        standing("a mortgage behind the sale", x, 0, 0, 2);
        x.court(0, 0, 1);
        refused("over by the second sale", STATE, () -> x.discharge(2, true));
        refused("over by the first", STATE, () -> x.discharge(0, false));
    }

    private static void dischargedIsOverToo() {
        Flaghall x = harbour();
        x.mortgage(0, 0, 1);
        x.discharge(0, true);
        x.court(0, 0, 1);
        refused("restoring what was discharged before the sale", STATE, () -> x.discharge(0, false));
        refused("discharging it", STATE, () -> x.discharge(0, true));
        same("it is over", x.rank(0), NONE);
        standing("none", x, 0, 0);
    }

    // ---- liens

    private static void liensByLaw() {
        lienClasses();
        lienAmounts();
        barredWhenMoreThan365Days();
        barredOneByOne();
    }

    /** "the class, 0 to 3". */
    private static void lienClasses() {
        Flaghall x = harbour();
        for (int bad : new int[] {MIN, -2, -1, 4, 5, MAX}) {
            refused("class " + bad, ARGUMENT, () -> x.lien(0, 1, bad, 1));
            refused("class " + bad + " of a bad amount", ARGUMENT, () -> x.lien(0, 1, bad, 0));
        }
        same("class 3", x.lien(0, 3, 3, 2), 1);
        same("class 0", x.lien(0, 2, 0, 2), 2);
        same("both are liens", x.liens(0), 2);
        x.court(0, 0, 3);
        same("class 0 first", x.got(2), 2);
        same("class 3 then", x.got(3), 1);
    }

    /** "amount: 1 to 1000000000", of a lien. */
    private static void lienAmounts() {
        Flaghall x = harbour();
        for (int bad : new int[] {MIN, -MOST_AMOUNT, -1, 0, MOST_AMOUNT + 1, MOST_PRICE, MAX}) {
            refused("lien of " + bad, ARGUMENT, () -> x.lien(0, 1, 0, bad));
        }
        same("the least", x.lien(0, 1, 0, 1), 1);
        same("the most", x.lien(0, 2, 0, MOST_AMOUNT), 2);
        same("both are liens", x.liens(0), 2);
        x.court(0, 3, MOST_AMOUNT + 2);
        same("the least is paid", x.got(1), 1);
        same("the most is paid", x.got(2), MOST_AMOUNT);
        same("the rest is the owner's", x.got(0), 1);
    }

    /** "it is barred when it is more than 365 days old": 525600 minutes are not, 525601 are. */
    private static void barredWhenMoreThan365Days() {
        for (int before : new int[] {0, 1, 5000}) {
            for (int age : new int[] {0, 1, LIEN_LASTS - 1, LIEN_LASTS, LIEN_LASTS + 1, LIEN_LASTS + 2, 1000000}) {
                for (int of = 0; of <= 3; of++) {
                    Flaghall x = harbour();
                    if (before > 0) {
                        x.pass(before);
                    }
                    x.lien(0, 1, of, 5);
                    if (age > 0) {
                        x.pass(age);
                    }
                    boolean barred = age > 525600;
                    same("liens of " + age + " minutes", x.liens(0), barred ? 0 : 1);
                    same("nobody", x.court(0, 2, 10), 0);
                    same("paid after " + age + " minutes", x.got(1), barred ? 0 : 5);
                    same("the owner's", x.got(0), barred ? 10 : 5);
                }
            }
        }
    }

    private static void barredOneByOne() {
        Flaghall x = harbour();
        for (int i = 0; i < 4; i++) {
            x.lien(0, i, i, 1);
            x.pass(1);
        }
        x.pass(LIEN_LASTS - 4);
        same("four", x.liens(0), 4);
        for (int left = 3; left >= 0; left--) {
            x.pass(1);
            same("liens a minute later", x.liens(0), left);
        }
        x.pass(1000000);
        same("none ever", x.liens(0), 0);
        same("a new one", x.lien(0, 0, 0, 1), 5);
        same("is there", x.liens(0), 1);
        same("not on the other ship", x.liens(1), 0);
    }

    // ---- sales by court

    private static void courts() {
        prices();
        liensByClassesTheLatestFirst();
        thenMortgagesByRank();
        asFarAsItGoes();
        roundedDown();
        whatNobodyGets();
        allSharesAreTheBuyers();
        noFlagThen();
        allIsOver();
        papersOfTheSameMinute();
        theSecondSale();
    }

    /** "price: 1 to 2000000000". */
    private static void prices() {
        Flaghall x = harbour();
        for (int bad : new int[] {MIN, -1, 0, MOST_PRICE + 1, MAX}) {
            refused("price " + bad, ARGUMENT, () -> x.court(0, 1, bad));
        }
        same("the least", x.court(0, 1, 1), 0);
        same("the owner's", x.got(0), 1);
        same("the most", x.court(0, 2, MOST_PRICE), 0);
        same("the next owner's", x.got(1), MOST_PRICE);
        x.sell(0, 2, 3, 1);
        same("the most, shared", x.court(0, 0, MOST_PRICE), 0);
        same("63 of 64", x.got(2), 1968750000L);
        same("one of 64", x.got(3), 31250000);
    }

    /** "liens [..] are paid first, by classes, in each class the latest first". */
    private static void liensByClassesTheLatestFirst() {
        int[] classes = {3, 0, 2, 1, 1, 3, 0, 2};
        int[] order = {7, 2, 5, 4, 8, 3, 6, 1};
        for (int minutes = 0; minutes <= 1; minutes++) {
            for (int paid = 0; paid <= order.length; paid++) {
                Flaghall x = crowd();
                x.mortgage(0, 9, 10);
                for (int i = 0; i < classes.length; i++) {
                    x.lien(0, i + 1, classes[i], 10);
                    if (minutes > 0) {
                        x.pass(minutes);
                    }
                }
                same("nobody", x.court(0, 0, 10 * paid + 1), 0);
                for (int i = 0; i < order.length; i++) {
                    same("lien of " + order[i], x.got(order[i]), i < paid ? 10 : i == paid ? 1 : 0);
                }
                same("the mortgage comes behind all", x.got(9), paid == order.length ? 1 : 0);
            }
        }
    }

    /** "then mortgages by rank": by the places of notices, without the discharged ones. */
    private static void thenMortgagesByRank() {
        int[] order = {3, 1, 5, 2};
        for (int paid = 0; paid <= order.length; paid++) {
            Flaghall x = crowd();
            x.notice(0, 3);
            x.mortgage(0, 1, 10);
            x.notice(0, 5);
            x.mortgage(0, 2, 10);
            x.mortgage(0, 4, 10);
            x.mortgage(0, 3, 10);
            x.mortgage(0, 5, 10);
            x.discharge(2, true);
            x.lien(0, 6, 3, 10);
            same("nobody", x.court(0, 9, 10 + 10 * paid + 1), 0);
            same("the lien comes before all", x.got(6), 10);
            for (int i = 0; i < order.length; i++) {
                same("mortgage of " + order[i], x.got(order[i]), i < paid ? 10 : i == paid ? 1 : 0);
            }
            same("the discharged one", x.got(4), 0);
            same("the owner comes behind all", x.got(0), paid == order.length ? 1 : 0);
        }
    }

    /** "each as far as it goes": one less than is due, as much, and one more. */
    private static void asFarAsItGoes() {
        for (int price = 1; price <= 9; price++) {
            Flaghall x = harbour();
            x.lien(0, 1, 0, 3);
            x.mortgage(0, 2, 4);
            same("nobody of " + price, x.court(0, 3, price), 0);
            same("the lien of " + price, x.got(1), Math.min(price, 3));
            same("the mortgage of " + price, x.got(2), Math.max(0, Math.min(price - 3, 4)));
            same("the owner of " + price, x.got(0), Math.max(0, price - 7));
        }
        Flaghall y = harbour();
        y.lien(0, 1, 0, MOST_AMOUNT);
        y.lien(0, 1, 1, MOST_AMOUNT);
        y.mortgage(0, 2, MOST_AMOUNT);
        same("the most price for three times the most amount", y.court(0, 3, MOST_PRICE), 0);
        same("two of them", y.got(1), MOST_PRICE);
        same("nothing for the third", y.got(2), 0);
        same("and for the owner", y.got(0), 0);
    }

    /** "as many sixty-fourths as it has of the ship, rounded down". */
    private static void roundedDown() {
        int[] prices = {1, 63, 64, 65, 127, 128, 129, 6399, 6400, MOST_PRICE - 1};
        for (int shares = 1; shares <= 63; shares++) {
            for (int price : prices) {
                Flaghall x = harbour();
                x.sell(0, 0, 1, shares);
                long seller = (long) price * (64 - shares) / 64;
                long buyer = (long) price * shares / 64;
                same("nobody of " + price + " for " + shares, x.court(0, 2, price), price - seller - buyer);
                same("the seller's", x.got(0), seller);
                same("the buyer's", x.got(1), buyer);
            }
        }
        Flaghall y = harbour();
        y.sell(0, 0, 1, 1);
        y.lien(0, 3, 0, 100);
        same("one of 63 that are left", y.court(0, 2, 163), 1);
        same("nothing for a 64th of 63", y.got(1), 0);
        same("62 for the others", y.got(0), 62);
    }

    /** "Returns what nobody gets.": the parts lost in rounding, of all parties. */
    private static void whatNobodyGets() {
        Flaghall x = crowd();
        for (int i = 1; i < 10; i++) {
            x.sell(0, 0, i, i < 4 ? 7 : 6);
        }
        same("the first has the rest", x.share(0, 0), 7);
        same("63 among ten", x.court(0, 0, 63), 9);
        same("one of four", x.got(3), 6);
        same("one of six", x.got(9), 5);
        Flaghall y = crowd();
        y.sell(0, 0, 9, 32);
        same("one among two", y.court(0, 0, 1), 1);
        same("neither gets it", y.got(0) + y.got(9), 0);
        same("one for one", y.court(0, 9, 1), 0);
        Flaghall z = crowd();
        z.sell(0, 0, 9, 32);
        z.mortgage(0, 5, 10);
        same("one is left", z.court(0, 0, 11), 1);
        same("the last party counts", z.court(0, 9, 64), 0);
        same("the last party's", z.court(0, 1, 6), 0);
        same("is got", z.got(9), 6);
    }

    /** "all shares are the buyer's": of one that has none, some or all. */
    private static void allSharesAreTheBuyers() {
        for (int before : new int[] {0, 1, 32, 63, 64}) {
            Flaghall x = harbour();
            if (before > 0) {
                x.sell(0, 0, 3, before);
            }
            x.court(0, 3, 64);
            same("the buyer's", x.share(0, 3), 64);
            same("not the owner's", x.share(0, 0), 0);
            same("the price by what each had", x.got(3), before);
            same("and the other", x.got(0), 64 - before);
            same("the other ship's stay", x.share(1, 1), 64);
            same("the other ship's buyer", x.share(1, 3), 0);
        }
    }

    /** "and the ship flies no flag": whoever buys it, and until one is flown. */
    private static void noFlagThen() {
        for (int buyer = 0; buyer <= 1; buyer++) {
            Flaghall x = harbour();
            x.fly(0, 0);
            x.fly(1, 0);
            x.court(0, buyer, 1);
            same("no flag", x.flag(0), NONE);
            same("the other ship's", x.flag(1), 0);
            x.sell(0, buyer, 2, 64);
            same("no flag by a sale", x.flag(0), NONE);
            x.pass(1000000);
            same("no flag later", x.flag(0), NONE);
            same("none before", x.fly(0, 0), NONE);
            same("its flag then", x.flag(0), 0);
        }
    }

    /** "All liens and mortgages on the ship are over then, and so are notices for it". */
    private static void allIsOver() {
        Flaghall x = harbour();
        for (int ship = 0; ship <= 1; ship++) {
            x.notice(ship, 1);
            x.lien(ship, 1, 0, 1);
            x.mortgage(ship, 2, 1);
            x.mortgage(ship, 3, 1);
        }
        x.court(0, 0, 1);
        same("liens", x.liens(0), 0);
        same("the other ship's liens", x.liens(1), 1);
        same("a mortgage", x.rank(0), NONE);
        same("the last mortgage", x.rank(1), NONE);
        standing("none", x, 0, 0);
        standing("the other ship's", x, 1, 0, 2, 3);
        x.mortgage(0, 3, 1);
        x.mortgage(0, 1, 1);
        standing("a notice is over", x, 0, 0, 4, 5);
        x.mortgage(1, 1, 1);
        standing("the other ship's is not", x, 1, 0, 6, 2, 3);
        x.notice(0, 2);
        x.mortgage(0, 3, 1);
        x.mortgage(0, 2, 1);
        standing("a notice behind the sale", x, 0, 0, 4, 5, 8, 7);
    }

    /** "Papers are entered in the order in which they come", also in one minute. */
    private static void papersOfTheSameMinute() {
        Flaghall x = harbour();
        x.lien(0, 1, 0, 1);
        x.mortgage(0, 1, 1);
        x.court(0, 0, 1);
        x.mortgage(0, 2, 1);
        x.lien(0, 2, 0, 1);
        same("the lien behind the sale", x.liens(0), 1);
        standing("the mortgage behind the sale", x, 0, 0, 1);
        x.court(0, 0, 5);
        same("paid before", x.got(1), 1);
        same("paid then", x.got(2), 2);
        same("and the owner", x.got(0), 3);
    }

    private static void theSecondSale() {
        Flaghall x = harbour();
        x.lien(0, 1, 0, 50);
        x.mortgage(0, 2, 50);
        same("the first sale", x.court(0, 3, 10), 0);
        same("pays the lien in part", x.got(1), 10);
        same("the second sale", x.court(0, 3, 10), 0);
        same("does not pay the rest", x.got(1), 10);
        same("nor the mortgage", x.got(2), 0);
        same("but the owner", x.got(3), 10);
        same("the first owner got nothing", x.got(0), 0);
    }

    // ---- searches

    private static void searches() {
        searchedMinutes();
        searchedRanks();
        atTheEndOfAMinute();
        fromAllPapersUpToThen();
    }

    /** "minute: 0 to now". */
    private static void searchedMinutes() {
        Flaghall x = harbour();
        x.mortgage(0, 0, 1);
        long[] never = {Long.MIN_VALUE, MIN, -1L << 32, -2, -1, 1L << 32, MAX, Long.MAX_VALUE};
        for (long bad : never) {
            refused("minute " + bad, ARGUMENT, () -> x.search(0, bad, 0));
            refused("minute " + bad + " of the other ship", ARGUMENT, () -> x.search(1, bad, 5));
        }
        same("minute 0", x.search(0, 0, 0), 0);
        refused("the next minute", ARGUMENT, () -> x.search(0, 1, 0));
        x.pass(1);
        same("minute 0 still", x.search(0, 0, 0), 0);
        same("minute 1", x.search(0, 1, 0), 0);
        refused("minute 2", ARGUMENT, () -> x.search(0, 2, 0));
        long now = 1;
        for (int i = 0; i < 200; i++) {
            now = x.pass(1000000);
        }
        same("now", x.search(0, now, 0), 0);
        same("the minute before", x.search(0, now - 1, 0), 0);
        refused("the minute behind", ARGUMENT, () -> x.search(0, 200000002, 0));
        for (long bad : never) {
            refused("minute " + bad + " then", ARGUMENT, () -> x.search(0, bad, 0));
        }
    }

    /** "rank: 0 for the first one", "or if rank is below 0", "NONE if there are not so many". */
    private static void searchedRanks() {
        Flaghall x = harbour();
        for (int count = 0; count <= 3; count++) {
            for (int bad : new int[] {MIN, MIN + 1, -2, -1}) {
                refused("rank " + bad, INDEX, () -> x.search(0, 0, bad));
            }
            for (int rank = 0; rank < count; rank++) {
                same("rank " + rank + " of " + count, x.search(0, 0, rank), rank);
            }
            for (int far : new int[] {count, count + 1, 59, 60, 61, MAX - 1, MAX}) {
                same("rank " + far + " of " + count, x.search(0, 0, far), NONE);
            }
            x.mortgage(0, count, 1);
        }
    }

    /** "as it was at the end of a minute": what came in it counts, what came a minute later does not. */
    private static void atTheEndOfAMinute() {
        Flaghall x = harbour();
        x.pass(10);
        x.mortgage(0, 0, 1);
        x.mortgage(0, 1, 1);
        same("the minute before", x.search(0, 9, 0), NONE);
        same("that minute", x.search(0, 10, 0), 0);
        same("the last of that minute", x.search(0, 10, 1), 1);
        x.discharge(0, true);
        same("discharged in the same minute", x.search(0, 10, 0), 1);
        x.discharge(0, false);
        same("restored in the same minute", x.search(0, 10, 0), 0);
        x.pass(1);
        x.discharge(0, true);
        same("at the end of the minute before", x.search(0, 10, 0), 0);
        same("at the end of this", x.search(0, 11, 0), 1);
        x.pass(1);
        x.discharge(0, false);
        same("discharged at the end of that", x.search(0, 11, 0), 1);
        same("restored at the end of this", x.search(0, 12, 0), 0);
        x.court(0, 0, 1);
        same("over in the same minute", x.search(0, 12, 0), NONE);
        same("not in the one before", x.search(0, 11, 0), 1);
        x.mortgage(0, 0, 1);
        same("anew in the same minute", x.search(0, 12, 0), 2);
        same("alone", x.search(0, 12, 1), NONE);
    }

    /** "from all papers up to then": places and ranks as they were, not as they are. */
    private static void fromAllPapersUpToThen() {
        Flaghall x = harbour();
        x.notice(0, 1);
        x.pass(1);
        x.mortgage(0, 2, 1);
        x.pass(1);
        x.mortgage(0, 1, 1);
        x.mortgage(1, 3, 1);
        x.pass(1);
        x.court(0, 0, 1);
        x.pass(1000000);
        same("a notice is no mortgage", x.search(0, 0, 0), NONE);
        same("the first at first", x.search(0, 1, 0), 0);
        same("the only one", x.search(0, 1, 1), NONE);
        same("the notice's place then", x.search(0, 2, 0), 1);
        same("the other behind it", x.search(0, 2, 1), 0);
        same("none at the sale", x.search(0, 3, 0), NONE);
        same("none now", x.search(0, 1000003, 0), NONE);
        same("the other ship's", x.search(1, 1000003, 0), 2);
        same("the other ship's at first", x.search(1, 1, 0), NONE);
        same("the last minute with it", x.search(1, 2, 0), 2);
    }

    // ---- questions

    private static void questions() {
        gotInAll();
        liensThatAreThere();
        ranksThatAreThere();
    }

    /** "what a party got from sales by court, in all": from nothing to beyond an int. */
    private static void gotInAll() {
        Flaghall x = harbour();
        for (int i = 0; i <= 3; i++) {
            same("nothing yet", x.got(i), 0);
        }
        x.sell(0, 0, 1, 64);
        same("nothing by a sale of shares", x.got(0), 0);
        x.lien(0, 1, 0, 1);
        x.mortgage(0, 1, 1);
        same("nothing by papers", x.got(1), 0);
        x.court(0, 1, 3);
        same("lien, mortgage and the rest", x.got(1), 3);
        same("the ship's first owner nothing", x.got(0), 0);
        x.court(1, 1, MOST_PRICE);
        x.court(1, 1, MOST_PRICE);
        same("of the other ship, and beyond an int", x.got(1), 3 + 2L * MOST_PRICE);
        same("still nothing", x.got(2), 0);
    }

    /** "how many liens on a ship are not barred, or over". */
    private static void liensThatAreThere() {
        Flaghall x = harbour();
        same("none", x.liens(0), 0);
        for (int i = 1; i <= 5; i++) {
            x.lien(0, i % 4, i % 4, i);
            same("liens", x.liens(0), i);
        }
        same("none on the other", x.liens(1), 0);
        x.notice(0, 0);
        x.mortgage(0, 0, 1);
        x.discharge(0, true);
        same("other papers are none", x.liens(0), 5);
        x.court(1, 0, 1);
        same("a sale of the other ends none", x.liens(0), 5);
        x.court(0, 0, 1);
        same("a sale of this ends all", x.liens(0), 0);
        x.lien(0, 0, 0, 1);
        same("one behind it", x.liens(0), 1);
    }

    /** "Returns the rank; NONE if it is discharged or over." */
    private static void ranksThatAreThere() {
        Flaghall x = harbour();
        for (int i = 0; i <= 3; i++) {
            x.mortgage(0, i, 1);
            same("rank of the last", x.rank(i), i);
        }
        x.discharge(3, true);
        same("the last is discharged", x.rank(3), NONE);
        same("the one before it stays", x.rank(2), 2);
        x.discharge(0, true);
        same("the first is discharged", x.rank(0), NONE);
        standing("two", x, 0, 0, 1, 2);
        x.discharge(3, false);
        standing("three", x, 0, 0, 1, 2, 3);
        x.court(1, 0, 1);
        standing("a sale of the other ship", x, 0, 0, 1, 2, 3);
        x.court(0, 0, 1);
        for (int i = 0; i <= 3; i++) {
            same("over", x.rank(i), NONE);
        }
    }
}
