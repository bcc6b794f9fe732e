import java.util.ArrayList;

/** Tokens of one root that are lent to gates for a time and spent there; ../shared/DOC.md says what is promised. */
public final class LeaseGates {
    public static final int NONE = -1;

    private static final int GATES = 6;
    private static final int KEYS = 8;
    private static final int MESSAGES = 300;

    private static final int ASK = 0;
    private static final int GRANT = 1;
    private static final int RETURN = 2;

    private final Root lender;
    private final Gate[] spenders;
    private final Post post;

    public LeaseGates() {
        lender = new Root();
        post = new Post();
        spenders = new Gate[GATES];
        for (int i = 0; i < GATES; i++) {
            spenders[i] = new Gate(i);
        }
    }

    public void key(int key, int rate, int burst) throws IllegalArgumentException {
        requireKey(key);
        requireWithin(rate, 0, 100000);
        requireWithin(burst, 0, 1000000);
        lender.buckets[key].reshape(rate, burst);
    }

    public void length(int milliseconds) throws IllegalArgumentException {
        requireWithin(milliseconds, 10, 9000);
        lender.loanLength = milliseconds;
    }

    public void weight(int gate, int key, int weight) throws IllegalArgumentException {
        requireGate(gate);
        requireKey(key);
        requireWithin(weight, 1, 100);
        lender.accountOf(gate, key).share = weight;
    }

    public void speed(int gate, int speed) throws IllegalArgumentException {
        requireWithin(gate, NONE, GATES - 1);
        requireWithin(speed, 999, 1001);
        tickerOf(gate).pace = speed;
    }

    public boolean take(int gate, int key, int n) throws IllegalArgumentException {
        requireGate(gate);
        requireKey(key);
        requireWithin(n, 1, 10000);
        boolean granted = spenders[gate].spend(key, n);
        if (granted) {
            lender.buckets[key].spentAtGates += n;
        }
        return granted;
    }

    public int work(int gate) throws IllegalArgumentException {
        requireGate(gate);
        int before = post.count;
        spenders[gate].settle(post);
        return post.count - before;
    }

    public boolean carry(int message) throws IllegalArgumentException {
        Message carried = requireMessage(message);
        switch (carried.kind) {
            case ASK:
                return lender.hearAsk(carried, post);
            case RETURN:
                return lender.hearReturn(carried);
            default:
                return spenders[carried.gate].hearGrant(carried);
        }
    }

    public void drop(int message) throws IllegalArgumentException {
        requireMessage(message);
        post.discard(message);
    }

    public void tick(int milliseconds) throws IllegalArgumentException {
        requireWithin(milliseconds, 1, 5000);
        lender.advance(milliseconds);
        for (int i = 0; i < GATES; i++) {
            spenders[i].ticker.advance(milliseconds);
        }
    }

    public int restart(int gate) throws IllegalArgumentException {
        requireGate(gate);
        return spenders[gate].startAnew();
    }

    public int root(int key, int what) throws IllegalArgumentException {
        requireKey(key);
        requireWithin(what, 0, 3);
        Bucket bucket = lender.buckets[key];
        switch (what) {
            case 0:
                return bucket.spentAtGates;
            case 1:
                return bucket.level;
            case 2:
                return bucket.lent;
            default:
                return bucket.loans.size();
        }
    }

    public int gate(int gate, int key, int what) throws IllegalArgumentException {
        requireGate(gate);
        requireKey(key);
        requireWithin(what, 0, 6);
        Desk desk = spenders[gate].desks[key];
        switch (what) {
            case 0:
                return desk.liveTokens(spenders[gate].ticker.now());
            case 1:
                return desk.holds.size();
            case 2:
                return desk.demand;
            case 3:
                return desk.use;
            case 4:
                return desk.asks;
            case 5:
                return desk.open ? 1 : 0;
            default:
                return desk.refusals;
        }
    }

    public int message(int message, int what) throws IllegalArgumentException {
        Message read = requireMessage(message);
        requireWithin(what, 0, 6);
        switch (what) {
            case 0:
                return read.kind;
            case 1:
                return read.gate;
            case 2:
                return read.key;
            case 3:
                return read.tokens;
            case 4:
                return read.birth;
            case 5:
                return read.count;
            default:
                return read.loan;
        }
    }

    public int sent() {
        return post.count;
    }

    public int clock(int gate) throws IllegalArgumentException {
        requireWithin(gate, NONE, GATES - 1);
        return tickerOf(gate).now();
    }

    private Ticker tickerOf(int gate) {
        return gate == NONE ? lender.ticker : spenders[gate].ticker;
    }

    private Message requireMessage(int number) {
        Message found = post.find(number);
        if (found == null) {
            throw new IllegalArgumentException("there is no such message");
        }
        return found;
    }

    private static void requireGate(int gate) {
        requireWithin(gate, 0, GATES - 1);
    }

    private static void requireKey(int key) {
        requireWithin(key, 0, KEYS - 1);
    }

    private static void requireWithin(int number, int least, int most) {
        if (number < least || number > most) {
            throw new IllegalArgumentException("a number is none of those that the document tells");
        }
    }

    /** A clock that may go a little wrong. */
    private static final class Ticker {
        // Thousandths are kept so that a wrong speed adds up over many short ticks.
        long thousandths;
        int pace = 1000;

        void advance(int milliseconds) {
            thousandths += (long) milliseconds * pace;
        }

        int now() {
            return (int) (thousandths / 1000);
        }
    }

    /** What is sent; it never changes, so that the same grant may be sent more than once. */
    private static final class Message {
        final int kind;
        final int gate;
        final int key;
        final int birth;
        final int tokens;
        final int count;
        final int loan;
        final int loanLength;

        /** An ask. */
        Message(int gate, int key, int birth, int count, int tokens) {
            this.kind = ASK;
            this.gate = gate;
            this.key = key;
            this.birth = birth;
            this.tokens = tokens;
            this.count = count;
            this.loan = NONE;
            this.loanLength = 0;
        }

        /** The grant that answers an ask. */
        Message(Message ask, int tokens, int loan, int loanLength) {
            this.kind = GRANT;
            this.gate = ask.gate;
            this.key = ask.key;
            this.birth = ask.birth;
            this.tokens = tokens;
            this.count = ask.count;
            this.loan = loan;
            this.loanLength = loanLength;
        }

        /** The return of a hold. */
        Message(int gate, int key, int birth, Hold hold) {
            this.kind = RETURN;
            this.gate = gate;
            this.key = key;
            this.birth = birth;
            this.tokens = hold.tokens;
            this.count = NONE;
            this.loan = hold.loan;
            this.loanLength = 0;
        }
    }

    /** All messages that were sent and not dropped, under their numbers. */
    private static final class Post {
        final Message[] slots = new Message[MESSAGES];
        int count;

        void send(Message message) {
            if (count < MESSAGES) {
                slots[count] = message;
                count++;
            }
        }

        Message find(int number) {
            return number >= 0 && number < count ? slots[number] : null;
        }

        void discard(int number) {
            if (number >= 0 && number < count) {
                slots[number] = null;
            }
        }
    }

    /** What a gate was lent, as the gate knows it. */
    private static final class Hold {
        final int loan;
        final int asked;
        final int span;
        int tokens;

        Hold(Message grant, int asked) {
            this.loan = grant.loan;
            this.asked = asked;
            // Short of the loan's length, so that the slowest gate stops before the fastest root lends anew.
            this.span = 998 * grant.loanLength / 1000;
            this.tokens = grant.tokens;
        }

        boolean isLive(int now) {
            return now - asked < span;
        }

        boolean isHalfOver(int now) {
            // Twice the time gone by, as half of an odd span is no whole number.
            return 2 * (now - asked) >= span;
        }

        int end() {
            return asked + span;
        }
    }

    /** A gate's state for one key. */
    private static final class Desk {
        final int gate;
        final int key;
        // In the order of numbers: the root answers a later ask of this desk with a higher number.
        final ArrayList<Hold> holds = new ArrayList<Hold>();
        int demand;
        int use;
        int asks;
        boolean open;
        int openSince;
        int refusals;

        Desk(int gate, int key) {
            this.gate = gate;
            this.key = key;
        }

        void clear() {
            holds.clear();
            demand = 0;
            use = 0;
            asks = 0;
            open = false;
            openSince = 0;
            refusals = 0;
        }

        int liveTokens(int now) {
            int sum = 0;
            for (int i = 0; i < holds.size(); i++) {
                Hold hold = holds.get(i);
                if (hold.isLive(now)) {
                    sum += hold.tokens;
                }
            }
            return sum;
        }

        boolean spend(int n, int now) {
            use += n;
            if (liveTokens(now) < n) {
                refusals++;
                return false;
            }
            refusals = 0;
            takeOut(n, now);
            return true;
        }

        private void takeOut(int n, int now) {
            int missing = n;
            for (int rounds = holds.size(); rounds > 0 && missing > 0; rounds--) {
                int next = liveHoldThatEndsFirst(now);
                if (next == NONE) {
                    return;
                }
                Hold hold = holds.get(next);
                int part = Math.min(missing, hold.tokens);
                missing -= part;
                hold.tokens -= part;
                if (hold.tokens == 0) {
                    holds.remove(next);
                }
            }
        }

        private int liveHoldThatEndsFirst(int now) {
            int first = NONE;
            for (int i = 0; i < holds.size(); i++) {
                Hold hold = holds.get(i);
                if (hold.isLive(now) && (first == NONE || hold.end() < holds.get(first).end())) {
                    first = i;
                }
            }
            return first;
        }

        void settle(int birth, int now, Post post) {
            giveBack(birth, now, post);
            demand = use + demand / 2;
            use = 0;
            int wanted = 2 * demand - liveTokens(now);
            if (wanted > 0 && mayAsk(now)) {
                asks++;
                open = true;
                openSince = now;
                post.send(new Message(gate, key, birth, asks, wanted));
            }
        }

        private boolean mayAsk(int now) {
            return !open || now - openSince >= 500;
        }

        private void giveBack(int birth, int now, Post post) {
            int kept = 0;
            int all = holds.size();
            for (int i = 0; i < all; i++) {
                Hold hold = holds.get(i);
                if (hold.isLive(now) && !hold.isHalfOver(now)) {
                    holds.set(kept, hold);
                    kept++;
                } else if (hold.isLive(now)) {
                    post.send(new Message(gate, key, birth, hold));
                }
            }
            for (int i = all - 1; i >= kept; i--) {
                holds.remove(i);
            }
        }

        boolean accept(Message grant) {
            if (!open || grant.count != asks) {
                return false;
            }
            open = false;
            if (grant.tokens > 0) {
                holds.add(new Hold(grant, openSince));
            }
            return true;
        }
    }

    /** One of the gates. */
    private static final class Gate {
        final Ticker ticker = new Ticker();
        final Desk[] desks = new Desk[KEYS];
        int birth;

        Gate(int number) {
            for (int i = 0; i < KEYS; i++) {
                desks[i] = new Desk(number, i);
            }
        }

        boolean spend(int key, int n) {
            return desks[key].spend(n, ticker.now());
        }

        void settle(Post post) {
            for (int i = 0; i < KEYS; i++) {
                desks[i].settle(birth, ticker.now(), post);
            }
        }

        boolean hearGrant(Message grant) {
            return grant.birth == birth && desks[grant.key].accept(grant);
        }

        int startAnew() {
            for (int i = 0; i < KEYS; i++) {
                desks[i].clear();
            }
            birth++;
            return birth;
        }
    }

    /** What the root lent, as the root knows it. */
    private static final class Loan {
        final int number;
        final int tokens;
        final int end;

        Loan(int number, int tokens, int end) {
            this.number = number;
            this.tokens = tokens;
            this.end = end;
        }
    }

    /** The root's state for one key. */
    private static final class Bucket {
        final ArrayList<Loan> loans = new ArrayList<Loan>();
        int rate;
        int burst;
        int level;
        int lent;
        int spentAtGates;

        void reshape(int newRate, int newBurst) {
            rate = newRate;
            burst = newBurst;
            fill(0);
        }

        /** Adds as many thousandths as may be; with 0 it only keeps the level under a new limit. */
        private void fill(long thousandths) {
            long limit = Math.max(0L, 1000L * (burst - lent));
            level = (int) Math.min(limit, level + thousandths);
        }

        void pass(int from, int to) {
            int at = from;
            for (int rounds = loans.size(); rounds > 0; rounds--) {
                int next = loanThatEndsFirst();
                if (next == NONE || loans.get(next).end > to) {
                    break;
                }
                // A loan is over before the level grows in that same millisecond.
                int lastBefore = loans.get(next).end - 1;
                fill((long) rate * (lastBefore - at));
                close(next);
                at = lastBefore;
            }
            fill((long) rate * (to - at));
        }

        private int loanThatEndsFirst() {
            int first = NONE;
            for (int i = 0; i < loans.size(); i++) {
                if (first == NONE || loans.get(i).end < loans.get(first).end) {
                    first = i;
                }
            }
            return first;
        }

        private void close(int place) {
            lent -= loans.get(place).tokens;
            loans.remove(place);
        }

        int free() {
            return level / 1000;
        }

        void lend(int number, int tokens, int end) {
            level -= 1000 * tokens;
            lent += tokens;
            loans.add(new Loan(number, tokens, end));
        }

        boolean bringBack(int number, int tokens) {
            for (int i = 0; i < loans.size(); i++) {
                if (loans.get(i).number == number) {
                    close(i);
                    fill(1000L * tokens);
                    return true;
                }
            }
            return false;
        }
    }

    /** What the root knows of one gate and one key. */
    private static final class Account {
        int share = 1;
        boolean asked;
        int askedAt;
        Message answer;

        boolean askedOfLate(int now) {
            return asked && now - askedAt < 1000;
        }
    }

    /** The one that lends. */
    private static final class Root {
        final Ticker ticker = new Ticker();
        final Bucket[] buckets = new Bucket[KEYS];
        final Account[] accounts = new Account[GATES * KEYS];
        final int[] births = new int[GATES];
        int loanLength = 2000;
        int loansSoFar;

        Root() {
            for (int i = 0; i < KEYS; i++) {
                buckets[i] = new Bucket();
            }
            for (int i = 0; i < GATES * KEYS; i++) {
                accounts[i] = new Account();
            }
        }

        Account accountOf(int gate, int key) {
            return accounts[gate * KEYS + key];
        }

        void advance(int milliseconds) {
            int before = ticker.now();
            ticker.advance(milliseconds);
            for (int i = 0; i < KEYS; i++) {
                buckets[i].pass(before, ticker.now());
            }
        }

        boolean hearAsk(Message ask, Post post) {
            if (ask.birth < births[ask.gate]) {
                return false;
            }
            if (ask.birth > births[ask.gate]) {
                births[ask.gate] = ask.birth;
                forgetAnswers(ask.gate);
            }
            Account account = accountOf(ask.gate, ask.key);
            if (account.answer == null || ask.count > account.answer.count) {
                account.answer = answerTo(ask, account);
            } else if (ask.count < account.answer.count) {
                return false;
            }
            post.send(account.answer);
            return true;
        }

        /** When the gate asked is kept: only answers are forgotten, and its weight still counts for others. */
        private void forgetAnswers(int gate) {
            for (int i = 0; i < KEYS; i++) {
                accountOf(gate, i).answer = null;
            }
        }

        private Message answerTo(Message ask, Account account) {
            account.asked = true;
            account.askedAt = ticker.now();
            Bucket bucket = buckets[ask.key];
            int free = bucket.free();
            int granted = free >= ask.tokens ? ask.tokens : shareOf(free, ask.key, account.share);
            if (granted <= 0) {
                return new Message(ask, 0, NONE, loanLength);
            }
            int number = loansSoFar;
            loansSoFar++;
            bucket.lend(number, granted, ticker.now() + loanLength);
            return new Message(ask, granted, number, loanLength);
        }

        private int shareOf(int free, int key, int share) {
            int sum = 0;
            for (int i = 0; i < GATES; i++) {
                Account account = accountOf(i, key);
                if (account.askedOfLate(ticker.now())) {
                    sum += account.share;
                }
            }
            return sum > 0 ? free * share / sum : 0;
        }

        boolean hearReturn(Message returned) {
            return returned.birth >= births[returned.gate]
                && buckets[returned.key].bringBack(returned.loan, returned.tokens);
        }
    }
}
