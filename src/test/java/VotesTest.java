/** Promises 12, 13 and 37 to 39: votes. */
public final class VotesTest {
    private static final Check C = new Check("VotesTest");

    public static void main(String[] args) {
        vote();
        fiveAtMost();
        ofAllUsersAndShapes();
        shown();
        winner();
        C.end();
    }

    private static Plugboard board() {
        Plugboard x = new Plugboard();
        for (int i = 0; i < 4; i++) {
            x.addShape(0, i, i, 1, 1, i == 0);
        }
        x.sync(0, 1);
        return x;
    }

    private static void vote() {
        Plugboard x = board();
        C.due("no user", Check.ARGUMENT, () -> x.vote(3, 0, 1));
        C.due("too many", Check.ARGUMENT, () -> x.vote(0, 0, 4));
        C.due("too few", Check.ARGUMENT, () -> x.vote(0, 0, -1));
        C.due("too many for no shape", Check.ARGUMENT, () -> x.vote(0, 9, 4));
        C.due("no shape", Check.ELEMENT, () -> x.vote(0, 4, 1));
        C.due("no shape -1", Check.ELEMENT, () -> x.vote(0, -1, 1));
        C.due("not seen", Check.ELEMENT, () -> x.vote(2, 0, 1));
        C.due("nothing changed", 4, () -> x.operations());
        C.due("vote", 0, () -> x.vote(0, 0, 3));
        C.due("in place of those before", 3, () -> x.vote(0, 0, 1));
        C.due("own votes", 1, () -> x.ownVotes(0, 0));
        C.due("none", 1, () -> x.vote(0, 0, 0));
        C.due("none", 0, () -> x.ownVotes(0, 0));
        C.due("own votes of another user", 0, () -> x.ownVotes(1, 0));
        C.due("no user", Check.ARGUMENT, () -> x.ownVotes(3, 0));
        C.due("no shape", Check.ELEMENT, () -> x.ownVotes(0, 4));
        C.due("not seen", Check.ELEMENT, () -> x.ownVotes(2, 0));
        x.lock(1, 0);
        x.sync(0, 1);
        C.due("a lock does not keep from voting", 0, () -> x.vote(0, 0, 2));
        C.due("one field", 1, () -> x.takeBack(0));
        C.due("taken back", 0, () -> x.ownVotes(0, 0));
    }

    private static void fiveAtMost() {
        Plugboard x = board();
        x.vote(0, 0, 3);
        C.due("6", Check.UNSUPPORTED, () -> x.vote(0, 1, 3));
        C.due("5", 0, () -> x.vote(0, 1, 2));
        C.due("6", Check.UNSUPPORTED, () -> x.vote(0, 2, 1));
        C.due("0 more", 0, () -> x.vote(0, 2, 0));
        C.due("the old ones do not count", 3, () -> x.vote(0, 0, 3));
        x.remove(0, 0);
        C.due("those of shapes that are not seen count", Check.UNSUPPORTED, () -> x.vote(0, 2, 1));
        C.due("each user has 5", 0, () -> x.vote(1, 2, 3));
        C.due("each user has 5", 0, () -> x.vote(1, 3, 2));
        C.due("votes change nobody else's", Check.UNSUPPORTED, () -> x.vote(1, 1, 1));
        x.sync(0, 1);
        C.due("others' votes do not count", 2, () -> x.vote(0, 1, 1));
        C.due("others' votes do not count", 0, () -> x.vote(0, 3, 1));
    }

    private static void ofAllUsersAndShapes() {
        for (int shape = 0; shape < 12; shape++) {
            Plugboard x = new Plugboard();
            for (int i = 0; i < 12; i++) {
                x.addShape(0, i, i, 1, 1, false);
            }
            x.sync(0, 1);
            x.sync(0, 2);
            for (int user = 0; user < 3; user++) {
                int who = user;
                int what = shape;
                C.due("vote", 0, () -> x.vote(who, what, who + 1));
            }
            for (int user = 0; user < 3; user++) {
                for (int other = 0; other < 12; other++) {
                    int who = user;
                    int what = other;
                    C.due("own votes", other == shape ? user + 1 : 0, () -> x.ownVotes(who, what));
                }
            }
        }
    }

    private static void shown() {
        Plugboard x = board();
        x.vote(0, 1, 2);
        x.vote(1, 1, 3);
        C.due("hidden", Check.UNSUPPORTED, () -> x.votesFor(0, 1));
        C.due("no shape ahead of hidden", Check.ELEMENT, () -> x.votesFor(0, 4));
        C.due("no user", Check.ARGUMENT, () -> x.votesFor(3, 1));
        C.due("not seen", Check.ELEMENT, () -> x.votesFor(2, 1));
        C.due("show", false, () -> x.show(0, true));
        C.due("show again", true, () -> x.show(0, true));
        C.due("only what is known", 2, () -> x.votesFor(0, 1));
        C.due("hidden on the other board", Check.UNSUPPORTED, () -> x.votesFor(1, 1));
        C.due("cannot vote", Check.UNSUPPORTED, () -> x.vote(0, 1, 1));
        C.due("not even the same", Check.UNSUPPORTED, () -> x.vote(0, 1, 2));
        C.due("number ahead of shown", Check.ARGUMENT, () -> x.vote(0, 1, 4));
        C.due("no shape ahead of shown", Check.ELEMENT, () -> x.vote(0, 9, 1));
        C.due("can vote on the other board", 3, () -> x.vote(1, 1, 2));
        x.sync(0, 1);
        C.due("together", 4, () -> x.votesFor(0, 1));
        C.due("shown on both", 4, () -> x.votesFor(1, 1));
        C.due("own ones as before", 2, () -> x.ownVotes(0, 1));
        C.due("taking a vote back is no voting", 1, () -> x.takeBack(1));
        C.due("taken back", 5, () -> x.votesFor(1, 1) );
        C.due("hide", true, () -> x.show(1, false));
        C.due("hidden", Check.UNSUPPORTED, () -> x.votesFor(1, 1));
        C.due("no user", Check.ARGUMENT, () -> x.show(-1, true));
        C.due("take the hiding back", 1, () -> x.takeBack(1));
        C.due("shown again", 5, () -> x.votesFor(1, 1));
        Boards.with(x, 250);
        C.due("shown ahead of 250 operations", Check.UNSUPPORTED, () -> x.vote(0, 1, 1));
        Plugboard y = board();
        Boards.with(y, 250);
        C.due("250 operations", Check.STATE, () -> y.vote(0, 1, 1));
        C.due("nothing changed", 0, () -> y.ownVotes(0, 1));
    }

    private static void winner() {
        Plugboard x = board();
        C.due("no user", Check.ARGUMENT, () -> x.winner(3));
        C.due("hidden ahead of none", Check.UNSUPPORTED, () -> x.winner(0));
        x.show(0, true);
        C.due("none", Check.ELEMENT, () -> x.winner(0));
        x.show(0, false);
        x.vote(0, 2, 2);
        x.vote(0, 1, 2);
        x.show(0, true);
        C.due("the lowest number of several", 1, () -> x.winner(0));
        x.vote(1, 3, 3);
        x.vote(1, 2, 2);
        x.sync(0, 1);
        C.due("all users together", 2, () -> x.winner(0));
        C.due("on both boards", 2, () -> x.winner(1));
        x.remove(0, 2);
        C.due("of those that are seen", 3, () -> x.winner(0));
        x.remove(0, 3);
        C.due("of those that are seen", 1, () -> x.winner(0));
        x.remove(0, 1);
        C.due("none that is seen", Check.ELEMENT, () -> x.winner(0));
    }
}
