/** Promises 9 to 16: sending, coming and leaving. */
public final class SendingTest {
    private static final int[] NO_WRITERS = {-1, 3, 6, 7, Integer.MAX_VALUE, Integer.MIN_VALUE};

    public static void main(String[] arguments) {
        promise9Deliver();
        promise9EarliestWaiting();
        promise9Refused();
        promise10DeliverAll();
        promise10Refused();
        promise11Lose();
        promise11Refused();
        promise12Repeat();
        promise12Refused();
        promise13CatchUp();
        promise13Refused();
        promise14Cut();
        promise14Refused();
        promise15Join();
        promise15Refused();
        promise16Leave();
        promise16Refused();
        Check.end("SendingTest");
    }

    /** Three writers, 0 to 2; writer 0 did three TYPEs that nobody else knows: "abc". */
    private static SharedPalimpsest three() {
        SharedPalimpsest x = new SharedPalimpsest();
        x.join(0);
        x.join(0);
        x.type(0, 0, 0, 1);
        x.type(0, 1, 1, 1);
        x.type(0, 2, 2, 1);
        return x;
    }

    private static void promise9Deliver() {
        SharedPalimpsest x = three();
        Check.same("the last one comes first", x.deliver(0, 1, 2), 0);
        Check.same("it is WAITING", x.waiting(1), 1);
        Check.same("it is not known", x.known(1), 0);
        Check.same("the others stay", x.inChannel(0, 1), 2);
        Check.same("the second one comes", x.deliver(0, 1, 1), 0);
        Check.same("the first one comes", x.deliver(0, 1, 0), 3);
        Check.same("nothing is WAITING", x.waiting(1), 0);
        Check.same("the channel is empty", x.inChannel(0, 1), 0);
        Check.sameText("all came", x, 1, "abc");
        Check.same("another channel is as it was", x.inChannel(0, 2), 3);
        x.type(1, 3, 3, 1);
        Check.same("it is known without its channel to 0", x.deliver(1, 2, 0), 0);
        Check.same("it waits for those of 0", x.waiting(2), 1);
        Check.same("one of 0", x.deliver(0, 2, 0), 1);
        Check.same("another one of 0", x.deliver(0, 2, 0), 1);
        Check.same("the last one of 0", x.deliver(0, 2, 0), 2);
        Check.sameText("all came to 2", x, 2, "abcd");
    }

    /** Of those that are WAITING, the earliest that came is known first, time and again. */
    private static void promise9EarliestWaiting() {
        SharedPalimpsest x = new SharedPalimpsest();
        for (int i = 0; i < 3; i++) {
            x.join(0);
        }
        x.type(0, 0, 0, 1);
        x.deliverAll(0, 1);
        x.deliverAll(0, 2);
        x.type(1, 1, 1, 1);
        x.type(1, 2, 2, 1);
        x.type(2, 1, 3, 1);
        x.deliver(1, 3, 1);
        x.deliver(2, 3, 0);
        x.deliver(1, 3, 0);
        Check.same("three are WAITING", x.waiting(3), 3);
        Check.same("all of them by one", x.deliver(0, 3, 0), 4);
        Check.same("version 2 has that of writer 2", x.letterIn(3, 2, 1), 3);
        Check.same("version 3 has the first one of 1", x.letterIn(3, 3, 2), 1);
        Check.same("version 4 has the second one of 1", x.letterIn(3, 4, 3), 2);
        Check.same("version 3 is without it", x.lengthIn(3, 3), 3);
        SharedPalimpsest y = three();
        y.repeat(0, 1, 2);
        y.deliver(0, 1, 2);
        Check.same("one that is WAITING comes again", y.deliver(0, 1, 2), 0);
        Check.same("it is WAITING once", y.waiting(1), 1);
    }

    private static void promise9Refused() {
        SharedPalimpsest x = three();
        for (int writer : NO_WRITERS) {
            Check.noWriter(x, "deliver from " + writer, () -> x.deliver(writer, 1, 0));
            Check.noWriter(x, "deliver to " + writer, () -> x.deliver(0, writer, 9));
            Check.noWriter(x, "deliver twice " + writer, () -> x.deliver(writer, writer, 0));
        }
        Check.wrongArgument(x, "deliver to oneself", () -> x.deliver(0, 0, 0));
        for (int place : new int[] {-1, 3, Integer.MAX_VALUE, Integer.MIN_VALUE}) {
            Check.wrongArgument(x, "deliver of place " + place, () -> x.deliver(0, 1, place));
        }
        Check.wrongArgument(x, "deliver of an empty channel", () -> x.deliver(1, 0, 0));
        x.cut(0, 1);
        Check.wrongState(x, "deliver to one that is CUT OFF", () -> x.deliver(0, 1, 0));
        Check.wrongArgument(x, "and of no place", () -> x.deliver(0, 1, 3));
        Check.wrongArgument(x, "deliver to oneself, cut", () -> x.deliver(1, 1, 0));
        Check.same("others deliver", x.deliver(0, 2, 0), 1);
    }

    private static void promise10DeliverAll() {
        SharedPalimpsest x = three();
        Check.same("deliverAll", x.deliverAll(0, 1), 3);
        Check.same("the channel is empty", x.inChannel(0, 1), 0);
        Check.same("deliverAll of an empty channel", x.deliverAll(0, 1), 0);
        x.lose(0, 2, 0);
        Check.same("without the first one", x.deliverAll(0, 2), 0);
        Check.same("both are WAITING", x.waiting(2), 2);
        Check.same("the channel is empty all the same", x.inChannel(0, 2), 0);
        x.type(1, 0, 25, 1);
        x.repeat(1, 2, 0);
        x.repeat(1, 2, 0);
        Check.same("waits for those of 0", x.deliverAll(1, 2), 0);
        Check.same("once", x.waiting(2), 3);
        x.type(0, 3, 3, 1);
        Check.same("one that waits too", x.deliverAll(0, 2), 0);
        Check.same("four are WAITING", x.waiting(2), 4);
        Check.same("catchUp brings them all", x.catchUp(0, 2), 5);
    }

    private static void promise10Refused() {
        SharedPalimpsest x = three();
        for (int writer : NO_WRITERS) {
            Check.noWriter(x, "deliverAll from " + writer, () -> x.deliverAll(writer, 1));
            Check.noWriter(x, "deliverAll to " + writer, () -> x.deliverAll(0, writer));
            Check.noWriter(x, "deliverAll twice " + writer, () -> x.deliverAll(writer, writer));
        }
        Check.wrongArgument(x, "deliverAll to oneself", () -> x.deliverAll(0, 0));
        x.cut(1, 0);
        Check.wrongState(x, "deliverAll, CUT OFF", () -> x.deliverAll(0, 1));
        Check.wrongState(x, "deliverAll back, CUT OFF", () -> x.deliverAll(1, 0));
        Check.wrongArgument(x, "deliverAll to oneself, cut", () -> x.deliverAll(0, 0));
        Check.same("the channel has all", x.inChannel(0, 1), 3);
    }

    private static void promise11Lose() {
        SharedPalimpsest x = three();
        Check.same("lose answers the NUMBER", x.lose(0, 1, 1), 2);
        Check.same("and again", x.lose(0, 1, 1), 3);
        Check.same("one is left", x.inChannel(0, 1), 1);
        Check.same("the other channel has all", x.inChannel(0, 2), 3);
        Check.same("nobody got it", x.known(1), 0);
        Check.same("the one that is left", x.deliver(0, 1, 0), 1);
        Check.sameText("only the first one came", x, 1, "a");
        x.type(1, 0, 9, 1);
        Check.same("the NUMBER is the author's own count", x.lose(1, 0, 0), 1);
        x.cut(0, 2);
        Check.same("lose, CUT OFF", x.lose(0, 2, 0), 1);
    }

    private static void promise11Refused() {
        SharedPalimpsest x = three();
        for (int writer : NO_WRITERS) {
            Check.noWriter(x, "lose from " + writer, () -> x.lose(writer, 1, 0));
            Check.noWriter(x, "lose to " + writer, () -> x.lose(0, writer, 9));
        }
        Check.wrongArgument(x, "lose to oneself", () -> x.lose(0, 0, 0));
        for (int place : new int[] {-1, 3, Integer.MAX_VALUE, Integer.MIN_VALUE}) {
            Check.wrongArgument(x, "lose of place " + place, () -> x.lose(0, 1, place));
        }
    }

    private static void promise12Repeat() {
        SharedPalimpsest x = three();
        Check.same("repeat answers how many", x.repeat(0, 1, 1), 4);
        Check.same("the repeated one is at the end", x.lose(0, 1, 3), 2);
        Check.same("it is where it was, too", x.lose(0, 1, 1), 2);
        Check.same("the other channel is as it was", x.inChannel(0, 2), 3);
        x.cut(0, 1);
        Check.same("repeat, CUT OFF", x.repeat(0, 1, 0), 3);
        x.cut(0, 1);
        Check.same("known once, then nothing", x.deliver(0, 1, 2), 1);
        Check.same("the same one again", x.deliver(0, 1, 0), 0);
    }

    private static void promise12Refused() {
        SharedPalimpsest x = three();
        for (int writer : NO_WRITERS) {
            Check.noWriter(x, "repeat from " + writer, () -> x.repeat(writer, 1, 0));
            Check.noWriter(x, "repeat to " + writer, () -> x.repeat(0, writer, 9));
        }
        Check.wrongArgument(x, "repeat to oneself", () -> x.repeat(0, 0, 0));
        for (int place : new int[] {-1, 3, Integer.MAX_VALUE, Integer.MIN_VALUE}) {
            Check.wrongArgument(x, "repeat of place " + place, () -> x.repeat(0, 1, place));
        }
        for (int many = 4; many <= 150; many++) {
            Check.same("repeat", x.repeat(0, 1, 0), many);
        }
        Check.wrongState(x, "repeat behind 150", () -> x.repeat(0, 1, 0));
        Check.wrongArgument(x, "no such place behind 150", () -> x.repeat(0, 1, 150));
        Check.same("the last place", x.inChannel(0, 1), 150);
        while (x.deeds() < 120) {
            x.type(0, 0, 0, 1);
        }
        Check.same("deeds come behind 150", x.inChannel(0, 1), 267);
        Check.wrongState(x, "repeat behind 267", () -> x.repeat(0, 1, 266));
        Check.same("the last one of them", x.lose(0, 1, 266), 120);
        Check.same("all are known", x.deliverAll(0, 1), 119);
    }

    private static void promise13CatchUp() {
        SharedPalimpsest x = three();
        x.type(1, 0, 9, 1);
        x.deliver(0, 1, 0);
        x.deliver(0, 2, 2);
        Check.same("from 1: two of its order", x.catchUp(1, 2), 2);
        Check.same("one is WAITING still", x.waiting(2), 1);
        Check.same("1 knows its own first", x.letterIn(2, 1, 0), 9);
        Check.same("from 0: with the one that waits", x.catchUp(0, 2), 2);
        Check.same("nothing is WAITING", x.waiting(2), 0);
        Check.same("the channel is as it was", x.inChannel(0, 2), 2);
        Check.same("nothing more", x.catchUp(0, 2), 0);
        Check.same("the one that knows is as it was", x.known(0), 3);
        Check.same("0 misses one", x.catchUp(2, 0), 1);
        Check.same("what comes by the channel does nothing", x.deliverAll(1, 0), 0);
        x.leave(0);
        Check.same("of one that left, too", x.catchUp(2, 1), 2);
        Check.same("all of 0", x.knownOf(1, 0), 3);
    }

    private static void promise13Refused() {
        SharedPalimpsest x = three();
        for (int writer : NO_WRITERS) {
            Check.noWriter(x, "catchUp from " + writer, () -> x.catchUp(writer, 1));
            Check.noWriter(x, "catchUp to " + writer, () -> x.catchUp(0, writer));
        }
        Check.wrongArgument(x, "catchUp with oneself", () -> x.catchUp(0, 0));
        x.cut(0, 1);
        Check.wrongState(x, "catchUp, CUT OFF", () -> x.catchUp(0, 1));
        Check.wrongState(x, "catchUp back, CUT OFF", () -> x.catchUp(1, 0));
        Check.same("catchUp with another one", x.catchUp(0, 2), 3);
    }

    private static void promise14Cut() {
        SharedPalimpsest x = three();
        Check.same("cut", x.cut(0, 1), true);
        Check.same("CUT OFF", x.areCut(0, 1), true);
        Check.same("both ways", x.areCut(1, 0), true);
        Check.same("not another pair", x.areCut(0, 2), false);
        Check.same("nor this one", x.areCut(1, 2), false);
        Check.same("ended by the other way", x.cut(1, 0), false);
        Check.same("not CUT OFF", x.areCut(0, 1), false);
        x.cut(2, 1);
        x.type(1, 0, 9, 1);
        Check.same("channels go on, CUT OFF", x.inChannel(1, 2), 1);
        x.cut(1, 2);
        Check.same("delivered when it is ended", x.deliverAll(1, 2), 1);
    }

    private static void promise14Refused() {
        SharedPalimpsest x = three();
        for (int writer : NO_WRITERS) {
            Check.noWriter(x, "cut of " + writer, () -> x.cut(writer, 1) ? 1 : 0);
            Check.noWriter(x, "cut from " + writer, () -> x.cut(1, writer) ? 1 : 0);
            Check.noWriter(x, "cut twice " + writer, () -> x.cut(writer, writer) ? 1 : 0);
        }
        Check.wrongArgument(x, "cut from oneself", () -> x.cut(1, 1) ? 1 : 0);
    }

    private static void promise15Join() {
        SharedPalimpsest x = three();
        x.cut(0, 1);
        x.deliver(0, 2, 1);
        x.type(2, 0, 9, 1);
        x.moveCaret(0, 1);
        Check.same("join by 0", x.join(0), 3);
        Check.same("join by 2", x.join(2), 4);
        Check.same("five came", x.writers(), 5);
        Check.sameText("what 0 knows", x, 3, "abc");
        Check.sameText("what 2 knows", x, 4, "j");
        Check.same("in the same order", x.letterIn(3, 2, 1), 1);
        Check.same("2 has one WAITING", x.waiting(2), 1);
        Check.same("4 has nothing WAITING", x.waiting(4), 0);
        Check.same("its caret is at the BEGINNING", x.caret(3), 0);
        Check.same("its rows are empty", x.undoable(3) + x.redoable(3), 0);
        Check.same("channels to it are empty", x.inChannel(0, 3), 0);
        Check.same("channels from it are empty", x.inChannel(3, 0), 0);
        Check.same("CUT OFF from nobody", x.areCut(3, 1), false);
        x.type(0, 3, 3, 1);
        Check.same("deeds go to it from then", x.inChannel(0, 3), 1);
        x.type(3, 0, 25, 1);
        Check.same("and from it", x.inChannel(3, 1), 1);
        Check.same("its first NUMBER", x.deedsOf(3), 1);
        Check.same("its STAMP", x.stampAt(3, 0), 4);
    }

    private static void promise15Refused() {
        SharedPalimpsest x = three();
        for (int writer : NO_WRITERS) {
            Check.noWriter(x, "join by " + writer, () -> x.join(writer));
        }
        x.leave(2);
        Check.noWriter(x, "join by one that left", () -> x.join(2));
        Check.same("numbers are not used again", x.join(1), 3);
        Check.same("the fifth", x.join(3), 4);
        Check.same("the sixth", x.join(0), 5);
        Check.wrongState(x, "a seventh", () -> x.join(0));
        Check.noWriter(x, "a seventh by nobody", () -> x.join(6));
        x.leave(5);
        Check.wrongState(x, "there were 6 already", () -> x.join(0));
        Check.same("six came", x.writers(), 6);
    }

    private static void promise16Leave() {
        SharedPalimpsest x = three();
        x.type(1, 0, 9, 1);
        x.deliverAll(0, 2);
        Check.same("two are PRESENT then", x.leave(0), 2);
        Check.same("not PRESENT", x.isPresent(0), false);
        Check.same("three came", x.writers(), 3);
        Check.same("its deeds stay where they are known", x.knownOf(2, 0), 3);
        Check.sameText("the text stays", x, 2, "abc");
        x.type(2, 0, 20, 1);
        Check.same("those that are PRESENT go on", x.inChannel(2, 1), 1);
        Check.same("what 1 did goes on to 2", x.deliverAll(1, 2), 1);
        Check.same("one is PRESENT then", x.leave(2), 1);
        Check.same("agree() of one alone", x.agree(), true);
        Check.same("what nobody knows is still counted", x.deeds(), 5);
    }

    private static void promise16Refused() {
        SharedPalimpsest x = three();
        for (int writer : NO_WRITERS) {
            Check.noWriter(x, "leave of " + writer, () -> x.leave(writer));
        }
        x.leave(0);
        Check.noWriter(x, "leave twice", () -> x.leave(0));
        Check.noWriter(x, "the channel from it is gone", () -> x.inChannel(0, 1));
        Check.noWriter(x, "the channel to it is gone", () -> x.deliverAll(1, 0));
        x.leave(1);
        Check.wrongState(x, "leave of the only one", () -> x.leave(2));
        Check.noWriter(x, "leave of one that left", () -> x.leave(1));
    }
}
