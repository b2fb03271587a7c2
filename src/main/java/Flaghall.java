import java.util.Arrays;

/**
 * Flaghall, a land where ships are born on paper: its people and companies, its ships and their
 * flags, and the book of papers that ranks mortgages and shares the price of sales by court.
 */
public final class Flaghall {
    /** There is none. */
    public static final int NONE = -1;

    private static final int LANDS = 4;
    private static final int PARTIES = 10;
    private static final int SHIPS = 6;
    private static final int PAPERS = 60;
    private static final int LETTERS = 8;
    private static final int LIEN_CLASSES = 4;

    /** The parts of a company, and the shares of a ship. */
    private static final int WHOLE = 64;
    private static final int HALF = 32;

    /** How many companies one behind the other are looked through, the one asked for being the first. */
    private static final int COMPANIES_DEEP = 5;

    private static final int MOST_AMOUNT = 1000000000;
    private static final int MOST_PRICE = 2000000000;
    private static final int MOST_MINUTES = 1000000;

    private static final long DAY = 1440;
    private static final long GRACE = 90 * DAY;
    private static final long NOTICE_HOLDS = 14 * DAY;
    private static final long LIEN_LASTS = 365 * DAY;
    private static final long NO_GRACE = -1;

    private static final char BLANK = ' ';

    private final Party[] parties = new Party[PARTIES];
    private final Ship[] ships = new Ship[SHIPS];
    private final Book book = new Book();
    private final char[] typed = new char[LETTERS];
    private final int[] heldByLand = new int[LANDS];
    private int partyCount;
    private int shipCount;
    private int typedCount;
    private long minute;

    /** Begins in the minute 0, without parties and ships. */
    public Flaghall() {
        for (int i = 0; i < PARTIES; i++) {
            parties[i] = new Party();
        }
        for (int i = 0; i < SHIPS; i++) {
            ships[i] = new Ship();
        }
    }

    // ---- parties

    /** Adds a letter to the word that is typed; returns how many it has then. */
    public int letter(char letter) throws IllegalArgumentException, IllegalStateException {
        if (letter < 'a' || letter > 'z') {
            throw new IllegalArgumentException("not a letter a to z");
        }
        if (typedCount >= LETTERS) {
            throw new IllegalStateException("the word is full");
        }
        typed[typedCount] = letter;
        typedCount++;
        return typedCount;
    }

    /** Tells a person of a land; returns the number. */
    public int person(int land) throws IndexOutOfBoundsException, IllegalStateException {
        needLand(land);
        return addParty(false, land);
    }

    /** Founds a company, whose parts belong to nobody; returns the number. */
    public int company() throws IllegalStateException {
        return addParty(true, NONE);
    }

    /** Sets how many parts of a company a party has; returns how many it had. */
    public int part(int company, int party, int many)
            throws IndexOutOfBoundsException, IllegalArgumentException, IllegalStateException {
        needParty(company);
        needParty(party);
        needWithin(many, 0, WHOLE);
        Party owned = parties[company];
        int had = owned.parts[party];
        if (!owned.isCompany || owned.partsOfParties() - had + many > WHOLE) {
            throw new IllegalStateException("a person, or more parts than there are");
        }
        owned.parts[party] = many;
        findHomes();
        for (int i = 0; i < shipCount; i++) {
            checkGrace(ships[i]);
        }
        return had;
    }

    /** Returns of which land a party is; NONE if it is of none. */
    public int land(int party) throws IndexOutOfBoundsException {
        needParty(party);
        return parties[party].home;
    }

    // ---- ships, flags

    /** Builds a ship with the name that is typed; returns its number, NONE if its sound is taken. */
    public int ship(int owner) throws IndexOutOfBoundsException, IllegalStateException {
        needParty(owner);
        if (typedCount == 0 || shipCount >= SHIPS) {
            throw new IllegalStateException("nothing is typed, or there are enough ships");
        }
        Ship built = ships[shipCount];
        built.takeName(typed, typedCount);
        typedCount = 0;
        for (int i = 0; i < shipCount; i++) {
            if (ships[i].soundsLike(built)) {
                return NONE;
            }
        }
        built.handTo(owner);
        shipCount++;
        return shipCount - 1;
    }

    /** Sells shares; returns how many the buyer has then. */
    public int sell(int ship, int from, int to, int many)
            throws IndexOutOfBoundsException, IllegalArgumentException, IllegalStateException {
        needShip(ship);
        needParty(from);
        needParty(to);
        if (from == to) {
            throw new IllegalArgumentException("seller and buyer are the same");
        }
        needWithin(many, 1, WHOLE);
        Ship sold = ships[ship];
        if (sold.shares[from] < many) {
            throw new IllegalStateException("the seller has not so many");
        }
        sold.shares[from] -= many;
        sold.shares[to] += many;
        checkGrace(sold);
        return sold.shares[to];
    }

    /** Lets a ship fly a flag; returns the flag before. */
    public int fly(int ship, int land) throws IndexOutOfBoundsException, IllegalStateException {
        needShip(ship);
        needLand(land);
        Ship flying = ships[ship];
        if (landOfMost(flying.shares) != land) {
            throw new IllegalStateException("too few shares are of that land");
        }
        int before = flying.flagAt(minute);
        flying.flown = land;
        flying.graceFrom = NO_GRACE;
        return before;
    }

    // ---- papers

    /** Enters a notice; returns how many papers there are. */
    public int notice(int ship, int party) throws IndexOutOfBoundsException, IllegalStateException {
        needShip(ship);
        needParty(party);
        needRoomInBook();
        book.enter(Kind.NOTICE, ship, party, minute);
        return book.paperCount;
    }

    /** Enters a mortgage; returns its number, from 0. */
    public int mortgage(int ship, int party, int amount)
            throws IndexOutOfBoundsException, IllegalArgumentException, IllegalStateException {
        needShip(ship);
        needParty(party);
        needWithin(amount, 1, MOST_AMOUNT);
        needRoomInBook();
        return book.enterMortgage(ship, party, amount, minute);
    }

    /** Enters a discharge, or lets a mortgage be again. */
    public void discharge(int mortgage, boolean is) throws IndexOutOfBoundsException, IllegalStateException {
        needMortgage(mortgage);
        needRoomInBook();
        boolean isDischarged = book.rankOf(mortgage, minute) == NONE;
        if (book.isOver(mortgage) || isDischarged == is) {
            throw new IllegalStateException("over by a sale, or so already");
        }
        book.enterDischarge(mortgage, is, minute);
    }

    /** Enters a lien of a class; returns how many papers there are. */
    public int lien(int ship, int party, int of, int amount)
            throws IndexOutOfBoundsException, IllegalArgumentException, IllegalStateException {
        needShip(ship);
        needParty(party);
        needWithin(of, 0, LIEN_CLASSES - 1);
        needWithin(amount, 1, MOST_AMOUNT);
        needRoomInBook();
        Paper paper = book.enter(Kind.LIEN, ship, party, minute);
        paper.lienClass = of;
        paper.amount = amount;
        return book.paperCount;
    }

    /** Enters a sale by court; returns what nobody gets. */
    public long court(int ship, int buyer, int price)
            throws IndexOutOfBoundsException, IllegalArgumentException, IllegalStateException {
        needShip(ship);
        needParty(buyer);
        needWithin(price, 1, MOST_PRICE);
        needRoomInBook();
        long left = payLiens(ship, price);
        left = payMortgages(ship, left);
        left = payOwners(ships[ship], left);
        book.enter(Kind.COURT, ship, buyer, minute);
        ships[ship].handTo(buyer);
        return left;
    }

    /** Lets minutes go by; returns the minute. */
    public long pass(int minutes) throws IllegalArgumentException {
        needWithin(minutes, 1, MOST_MINUTES);
        minute += minutes;
        return minute;
    }

    // ---- questions

    /** Returns how many shares of a ship a party has. */
    public int share(int ship, int party) throws IndexOutOfBoundsException {
        needShip(ship);
        needParty(party);
        return ships[ship].shares[party];
    }

    /** Returns a letter of the sound of a ship's name; a blank beyond. */
    public char sound(int ship, int place) throws IndexOutOfBoundsException {
        needShip(ship);
        needNotNegative(place);
        Ship named = ships[ship];
        return place < named.soundLength ? named.soundLetters[place] : BLANK;
    }

    /** Returns the flag of a ship; NONE without a flag. */
    public int flag(int ship) throws IndexOutOfBoundsException {
        needShip(ship);
        return ships[ship].flagAt(minute);
    }

    /** Returns the rank of a mortgage; NONE if it is discharged or over. */
    public int rank(int mortgage) throws IndexOutOfBoundsException {
        needMortgage(mortgage);
        return book.rankOf(mortgage, minute);
    }

    /** Returns the mortgage of a rank at the end of a minute; NONE if there are not so many. */
    public int search(int ship, long minute, int rank) throws IndexOutOfBoundsException, IllegalArgumentException {
        needShip(ship);
        needNotNegative(rank);
        if (minute < 0 || minute > this.minute) {
            throw new IllegalArgumentException("not a minute up to now");
        }
        return book.mortgageOfRank(ship, rank, minute);
    }

    /** Returns what a party got from sales by court, in all. */
    public long got(int party) throws IndexOutOfBoundsException {
        needParty(party);
        return parties[party].received;
    }

    /** Returns how many liens on a ship are not barred, or over. */
    public int liens(int ship) throws IndexOutOfBoundsException {
        needShip(ship);
        int count = 0;
        for (int row = book.firstOpenRow(ship); row < book.paperCount; row++) {
            if (book.papers[row].isLienOn(ship, minute)) {
                count++;
            }
        }
        return count;
    }

    // ---- arguments

    private void needLand(int land) {
        if (land < 0 || land >= LANDS) {
            throw new IndexOutOfBoundsException("no such land");
        }
    }

    private void needParty(int party) {
        if (party < 0 || party >= partyCount) {
            throw new IndexOutOfBoundsException("no such party");
        }
    }

    private void needShip(int ship) {
        if (ship < 0 || ship >= shipCount) {
            throw new IndexOutOfBoundsException("no such ship");
        }
    }

    private void needMortgage(int mortgage) {
        if (mortgage < 0 || mortgage >= book.mortgageCount) {
            throw new IndexOutOfBoundsException("no such mortgage");
        }
    }

    private void needNotNegative(int place) {
        if (place < 0) {
            throw new IndexOutOfBoundsException("no such place");
        }
    }

    private void needWithin(int number, int least, int most) {
        if (number < least || number > most) {
            throw new IllegalArgumentException("out of range");
        }
    }

    private void needRoomInBook() {
        if (book.isFull()) {
            throw new IllegalStateException("there are enough papers");
        }
    }

    // ---- who is of which land

    private int addParty(boolean isCompany, int home) {
        if (partyCount >= PARTIES) {
            throw new IllegalStateException("there are enough parties");
        }
        Party added = parties[partyCount];
        added.isCompany = isCompany;
        added.home = home;
        partyCount++;
        return partyCount - 1;
    }

    /**
     * Finds the lands of all companies. Each round looks behind one company more, so a round must
     * see only what the round before it found: that is why a new home waits in nextHome.
     */
    private void findHomes() {
        for (int i = 0; i < partyCount; i++) {
            if (parties[i].isCompany) {
                parties[i].home = NONE;
            }
        }
        for (int round = 0; round < COMPANIES_DEEP; round++) {
            for (int i = 0; i < partyCount; i++) {
                parties[i].nextHome = landOfMost(parties[i].parts);
            }
            for (int i = 0; i < partyCount; i++) {
                if (parties[i].isCompany) {
                    parties[i].home = parties[i].nextHome;
                }
            }
        }
    }

    /** The land whose parties hold more than half of a whole; there can be just one. */
    private int landOfMost(int[] held) {
        Arrays.fill(heldByLand, 0);
        for (int i = 0; i < partyCount && i < held.length; i++) {
            int home = parties[i].home;
            if (home >= 0 && home < LANDS) {
                heldByLand[home] += held[i];
            }
        }
        for (int land = 0; land < LANDS; land++) {
            if (heldByLand[land] > HALF) {
                return land;
            }
        }
        return NONE;
    }

    private void checkGrace(Ship ship) {
        if (ship.flown == NONE || landOfMost(ship.shares) == ship.flown) {
            ship.graceFrom = NO_GRACE;
        } else if (ship.graceFrom == NO_GRACE) {
            ship.graceFrom = minute;
        }
    }

    // ---- the fund of a sale by court; each step returns what is left

    private long payLiens(int ship, long price) {
        long left = price;
        int from = book.firstOpenRow(ship);
        for (int of = 0; of < LIEN_CLASSES; of++) {
            for (int row = book.paperCount - 1; row >= from; row--) {
                Paper paper = book.papers[row];
                if (paper.isLienOn(ship, minute) && paper.lienClass == of) {
                    left -= pay(paper.party, Math.min(left, paper.amount));
                }
            }
        }
        return left;
    }

    private long payMortgages(int ship, long fund) {
        long left = fund;
        book.readUpTo(ship, minute);
        for (int place = 0; place < book.paperCount; place++) {
            int number = book.standing[place];
            if (number >= 0 && number < book.mortgageCount) {
                Mortgage claim = book.mortgages[number];
                left -= pay(claim.party, Math.min(left, claim.amount));
            }
        }
        return left;
    }

    private long payOwners(Ship sold, long fund) {
        long left = fund;
        for (int i = 0; i < partyCount; i++) {
            left -= pay(i, fund * sold.shares[i] / WHOLE);
        }
        return left;
    }

    private long pay(int party, long sum) {
        if (party < 0 || party >= partyCount) {
            return 0;
        }
        parties[party].received += sum;
        return sum;
    }

    private enum Kind { NOTICE, MORTGAGE, DISCHARGE, RESTORING, LIEN, COURT }

    /** A person or a company. */
    private static final class Party {
        /** How many parts of this company each party has. */
        private final int[] parts = new int[PARTIES];
        private boolean isCompany;
        private int home = NONE;
        private int nextHome = NONE;
        private long received;

        private int partsOfParties() {
            int sum = 0;
            for (int i = 0; i < parts.length; i++) {
                sum += parts[i];
            }
            return sum;
        }
    }

    private static final class Ship {
        private final char[] soundLetters = new char[LETTERS];
        private final int[] shares = new int[PARTIES];
        private int soundLength;
        /** The flag that was flown last: it is kept through the grace and beyond, as it may come back. */
        private int flown = NONE;
        private long graceFrom = NO_GRACE;

        private void takeName(char[] letters, int count) {
            soundLength = 0;
            for (int i = 0; i < count && i < letters.length; i++) {
                if (isHeard(letters[i]) && soundLength < LETTERS) {
                    soundLetters[soundLength] = letters[i];
                    soundLength++;
                }
            }
        }

        private boolean isHeard(char letter) {
            if (letter == 'a' || letter == 'e' || letter == 'i' || letter == 'o' || letter == 'u') {
                return false;
            }
            return soundLength == 0 || soundLetters[soundLength - 1] != letter;
        }

        private boolean soundsLike(Ship other) {
            if (soundLength != other.soundLength) {
                return false;
            }
            for (int i = 0; i < soundLength; i++) {
                if (soundLetters[i] != other.soundLetters[i]) {
                    return false;
                }
            }
            return true;
        }

        private void handTo(int owner) {
            Arrays.fill(shares, 0);
            if (owner >= 0 && owner < PARTIES) {
                shares[owner] = WHOLE;
            }
            flown = NONE;
            graceFrom = NO_GRACE;
        }

        private int flagAt(long now) {
            boolean isLost = graceFrom != NO_GRACE && now - graceFrom >= GRACE;
            return isLost ? NONE : flown;
        }
    }

    private static final class Paper {
        private Kind kind = Kind.NOTICE;
        private int ship = NONE;
        private int party = NONE;
        private long minute;
        private int amount;
        private int lienClass = NONE;
        /** The mortgage that is entered, discharged or restored. */
        private int mortgage = NONE;
        /** Where that mortgage stands among the papers. */
        private int place = NONE;
        private boolean isPlaceTaken;

        private boolean isLienOn(int onShip, long now) {
            return kind == Kind.LIEN && ship == onShip && now - minute <= LIEN_LASTS;
        }

        private boolean holdsPlaceFor(int forShip, int forParty, long now) {
            return kind == Kind.NOTICE && !isPlaceTaken && ship == forShip && party == forParty
                    && now - minute <= NOTICE_HOLDS;
        }
    }

    private static final class Mortgage {
        private int ship = NONE;
        private int party = NONE;
        private int amount;
        private int place = NONE;
        private int row = NONE;
    }

    /** All papers in the order in which they came. A row is a paper's number from 0. */
    private static final class Book {
        private final Paper[] papers = new Paper[PAPERS];
        private final Mortgage[] mortgages = new Mortgage[PAPERS];
        /** What readUpTo found: by places, which mortgage stands there, or NONE. */
        private final int[] standing = new int[PAPERS];
        private int paperCount;
        private int mortgageCount;

        private Book() {
            for (int i = 0; i < PAPERS; i++) {
                papers[i] = new Paper();
                mortgages[i] = new Mortgage();
            }
        }

        /** Each mortgage is a paper too, so its rows can't be full before the papers are. */
        private boolean isFull() {
            return paperCount >= papers.length || mortgageCount >= mortgages.length;
        }

        /** Enters a paper; the face has looked before whether there is room. */
        private Paper enter(Kind kind, int ship, int party, long now) {
            Paper paper = papers[paperCount];
            paper.kind = kind;
            paper.ship = ship;
            paper.party = party;
            paper.minute = now;
            paperCount++;
            return paper;
        }

        private int enterMortgage(int ship, int party, int amount, long now) {
            Mortgage added = mortgages[mortgageCount];
            added.ship = ship;
            added.party = party;
            added.amount = amount;
            added.place = takePlace(ship, party, now);
            added.row = paperCount;
            Paper paper = enter(Kind.MORTGAGE, ship, party, now);
            paper.mortgage = mortgageCount;
            paper.place = added.place;
            mortgageCount++;
            return mortgageCount - 1;
        }

        private void enterDischarge(int mortgage, boolean is, long now) {
            Mortgage meant = mortgages[mortgage];
            Paper paper = enter(is ? Kind.DISCHARGE : Kind.RESTORING, meant.ship, meant.party, now);
            paper.mortgage = mortgage;
            paper.place = meant.place;
        }

        /** The place of the first notice that holds one, or the row that the next paper gets. */
        private int takePlace(int ship, int party, long now) {
            for (int row = firstOpenRow(ship); row < paperCount; row++) {
                if (papers[row].holdsPlaceFor(ship, party, now)) {
                    papers[row].isPlaceTaken = true;
                    return row;
                }
            }
            return paperCount;
        }

        /** The row behind the last sale of a ship by court: what was entered for it before is over. */
        private int firstOpenRow(int ship) {
            for (int row = paperCount - 1; row >= 0; row--) {
                if (papers[row].kind == Kind.COURT && papers[row].ship == ship) {
                    return row + 1;
                }
            }
            return 0;
        }

        private boolean isOver(int mortgage) {
            Mortgage meant = mortgages[mortgage];
            return meant.row < firstOpenRow(meant.ship);
        }

        /** Reads all papers on a ship once more, up to the end of a minute. */
        private void readUpTo(int ship, long lastMinute) {
            Arrays.fill(standing, NONE);
            for (int row = 0; row < paperCount && papers[row].minute <= lastMinute; row++) {
                if (papers[row].ship == ship) {
                    read(papers[row]);
                }
            }
        }

        private void read(Paper paper) {
            int place = paper.place;
            if (paper.kind == Kind.COURT) {
                Arrays.fill(standing, NONE);
            } else if (place >= 0 && place < PAPERS) {
                standing[place] = paper.kind == Kind.DISCHARGE ? NONE : paper.mortgage;
            }
        }

        private int rankOf(int mortgage, long now) {
            readUpTo(mortgages[mortgage].ship, now);
            int before = 0;
            for (int place = 0; place < paperCount; place++) {
                if (standing[place] == mortgage) {
                    return before;
                }
                if (standing[place] != NONE) {
                    before++;
                }
            }
            return NONE;
        }

        private int mortgageOfRank(int ship, int rank, long lastMinute) {
            readUpTo(ship, lastMinute);
            int before = 0;
            for (int place = 0; place < paperCount; place++) {
                if (standing[place] != NONE) {
                    if (before == rank) {
                        return standing[place];
                    }
                    before++;
                }
            }
            return NONE;
        }
    }
}
