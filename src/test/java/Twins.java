import java.util.ArrayList;
import java.util.List;

/** Two objects with one past: what is refused by the one must leave both with the same answers. */
final class Twins {
    /** Calls that change nothing, with the answers that are due. */
    interface Refusals {
        void of(LawHoles x);
    }

    private Twins() { }

    /** A law in which all there is has something in it, and a TAPE of 25 bytes. */
    static LawHoles rich() {
        LawHoles x = new LawHoles();
        x.coin(0, 5);
        x.coin(2, 1);
        x.debt(1, 2, 3);
        x.kin(0, 1, 0, true);
        x.kin(2, 1, 1, true);
        x.owner(1, 2);
        x.day(4);
        Check.statute(x, 0, "act pay need coin a>0 make coin a-1 make coin b+1;act tick need day<7 make day+1;");
        Check.statute(x, 1, "act take need day>4 make own a;");
        Check.never(x, "coin a>5");
        Check.never(x, "things a>1 and day>4");
        Check.cure(x, 1, "day<4");
        Check.cure(x, 0, "wed a b=1");
        int[] codes = {79, 398, 7, 767};
        for (int i = 0; i < codes.length; i++) {
            x.put(1, codes[i]);
            x.put(3, codes[codes.length - 1 - i]);
            x.past(codes[i]);
        }
        x.put(2, 79);
        x.honest(2, true);
        Check.feed(x, "day>1 and coin a+coin b=5");
        return x;
    }

    /** The answers of an object; it is not used any more then. */
    private static List<Integer> answers(LawHoles x) {
        List<Integer> all = new ArrayList<>();
        all.add(x.fault(0));
        all.add(x.fault(1));
        for (int what = 0; what <= 50; what++) {
            all.add(x.after(0, what));
        }
        for (int i = 0; i < 12; i++) {
            for (int what = 0; what < 4; what++) {
                all.add(x.act(i, what));
            }
        }
        for (int k = 0; k < 6; k++) {
            all.add(x.hole(k, 3, 2, 7, 0));
            all.add(x.hole(k, 3, 2, 7, 20));
            all.add(x.stop(k, 2, 0));
            all.add(x.gain(k, 3, 2, 0));
            all.add(x.lawful(k, 3, 31, 0));
            all.add(x.lawful(k, 3, 31, 1));
            all.add(x.after(k, 50));
            all.add(x.through(k, 0));
            all.add(x.honest(k, true) ? 1 : 0);
            all.add(x.put(k, 0));
        }
        all.add(x.past(0));
        all.add(x.met(3, 2, false));
        // a TAPE that was changed is another NEVER, or of another length
        all.add(x.feed(0x20202020, 0x20202020, 0x20202020, 0x20202020, 0x20202020));
        all.add(x.never());
        all.add(x.hole(2, 3, 2, 7, 20));
        all.add(Check.cure(x, 0, "1=1"));
        return all;
    }

    static void stayAlike(Sentences doc, Refusals refusals) {
        LawHoles refused = rich();
        refusals.of(refused);
        List<Integer> got = answers(refused);
        List<Integer> want = answers(rich());
        for (int i = 0; i < want.size(); i++) {
            doc.due("refused calls change nothing, answer " + i, got.get(i), want.get(i));
        }
    }
}
