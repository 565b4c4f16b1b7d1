/** Laws by which just so many STATES are MET: PERSON 0 counts with coins, days and debts, up to some sum of them. */
final class Counter {
    static final String SUM = "coin a+16*day+256*debt a b";

    private Counter() { }

    /** How many steps by 1 and by 4 a digit is. */
    private static int steps(int digit) {
        return digit / 4 + digit % 4;
    }

    /** The first sums that 6 ACTS can reach. */
    static int[] values(int many) {
        int[] all = new int[many];
        int found = 0;
        for (int sum = 0; found < many; sum++) {
            if (steps(sum % 16) + steps(sum / 16 % 16) + steps(sum / 256) <= 6) {
                all[found] = sum;
                found++;
            }
        }
        return all;
    }

    /** A number as an E: a NUMBER has 3 digits at most. */
    static String number(int v) {
        return v > 999 ? "999+" + (v - 999) : "" + v;
    }

    /** By STATUTE 0, up to 6 ACTS. */
    static LawHoles of(int many, String never) {
        int last = values(many)[many - 1];
        String[] makes = {"coin a+1", "coin a+4", "day+1", "day+4", "debt a b+1", "debt a b+4"};
        int[] by = {1, 4, 16, 64, 256, 1024};
        StringBuilder text = new StringBuilder();
        for (int i = 0; i < makes.length; i++) {
            text.append("act c").append((char) ('a' + i)).append(" need things a=2 need things b=1 need ").append(SUM)
                .append('+').append(number(by[i])).append('<').append(number(last + 1)).append(" make ").append(makes[i]).append(';');
        }
        LawHoles x = new LawHoles();
        x.owner(0, 0);
        x.owner(1, 0);
        x.owner(2, 1);
        Check.statute(x, 0, text.toString());
        Check.never(x, "things a=2 and things b=1 and " + never);
        return x;
    }
}
