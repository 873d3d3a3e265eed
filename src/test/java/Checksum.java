import java.math.BigInteger;

/** The checksum as its promise says it, from the answers of the other calls, and not yet wrapped around. */
final class Checksum {

    private static final int NONE = -1;
    /** So many answers are taken from one object: with the calls ahead of them it is used for fewer than 512. */
    private static final int MOST_ASKED = 200;

    private final Twins.Calls calls;
    private final int queries;
    private DovecoteMail mail;
    private int asked;
    private BigInteger d = BigInteger.valueOf(2689);

    private Checksum(Twins.Calls calls, int queries) {
        this.calls = calls;
        this.queries = queries;
    }

    static BigInteger of(Twins.Calls calls, int queries) {
        Checksum checksum = new Checksum(calls, queries);
        checksum.mix(checksum.mail().messages());
        checksum.mix(checksum.mail().stamp());
        for (int address = 0; address < 10; address++) {
            checksum.mix(checksum.mail().bounces(address));
        }
        for (int person = 0; person < 4; person++) {
            checksum.mixPerson(person);
        }
        return checksum.d;
    }

    private DovecoteMail mail() {
        if (asked % MOST_ASKED == 0) {
            mail = new DovecoteMail();
            calls.on(mail);
        }
        asked++;
        return mail;
    }

    private void mix(int v) {
        d = d.multiply(BigInteger.valueOf(31)).add(BigInteger.valueOf(v));
    }

    private void mixPerson(int person) {
        mix(mail().full(person));
        int folders = mail().folders(person);
        mix(folders);
        mix(mail().threads(person));
        for (int folder = 0; folder < folders; folder++) {
            for (int what = 0; what < 6; what++) {
                mix(mail().ofFolder(person, folder, what));
            }
        }
        int messages = mail().messages();
        for (int message = 0; message < messages; message++) {
            mixCopy(person, message);
        }
        for (int query = 0; query < queries; query++) {
            mix(mail().finds(person, query));
        }
    }

    private void mixCopy(int person, int message) {
        for (int what = 0; what < 5; what++) {
            mix(mail().copy(person, message, what));
        }
        if (mail().copy(person, message, 1) != NONE) {
            for (int what = 0; what < 4; what++) {
                mix(mail().ofThread(person, message, what));
            }
        }
    }
}
