/**
 * Edge cases, each looked at on objects of its own: what is the least and the greatest that is
 * told, what is refused, and that a refused call leaves all as it was.
 */
final class Edges {
    /** Tells an object what is so before the call. */
    interface Setup {
        void tell(MirrorTrue x);
    }

    /** The call that is looked at. */
    interface Call {
        long ask(MirrorTrue x);
    }

    /** A call of which one number is looked at. */
    interface CallOf {
        long ask(MirrorTrue x, int v);
    }

    private final Check check;

    Edges(Check check) {
        this.check = check;
    }

    /** On an object that was told of everything, the call answers so. */
    void answers(String sentence, Call call, long due) {
        check.due(sentence, call.ask(told(Told::all)), due);
    }

    /** A question is answered so, and nothing changes. */
    void asks(String sentence, Call call, long due) {
        leaves(sentence, Told::all, call, due);
    }

    /** Refused, and nothing changes. */
    void refuses(String sentence, Setup before, Call call, long due) {
        leaves(sentence, before, call, due);
    }

    private void leaves(String sentence, Setup before, Call call, long due) {
        MirrorTrue asked = told(before);
        check.due(sentence, call.ask(asked), due);
        String difference = Snapshot.difference(asked, told(before));
        check.holds(sentence + ": nothing changes, but " + difference, difference.isEmpty());
    }

    /** Refused on an object that was told of everything, and nothing changes. */
    void refuses(String sentence, Call call, long due) {
        refuses(sentence, Told::all, call, due);
    }

    /** The least and the greatest number that is told are taken; all others are refused. */
    void range(String sentence, int least, long dueOfLeast, int most, long dueOfMost,
            CallOf call, long refusal) {
        answers(sentence + ": " + least, x -> call.ask(x, least), dueOfLeast);
        answers(sentence + ": " + most, x -> call.ask(x, most), dueOfMost);
        refuses(sentence + ": " + (least - 1) + " is too small", x -> call.ask(x, least - 1), refusal);
        refuses(sentence + ": " + (most + 1) + " is too large", x -> call.ask(x, most + 1), refusal);
        for (int far : new int[] {Integer.MIN_VALUE, Integer.MIN_VALUE + least, least - 65536,
            most + 65536, Integer.MAX_VALUE}) {
            refuses(sentence + ": " + far + " is far off", x -> call.ask(x, far), refusal);
        }
    }

    private static MirrorTrue told(Setup before) {
        MirrorTrue x = new MirrorTrue();
        before.tell(x);
        return x;
    }
}
