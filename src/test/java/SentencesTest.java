/** Every sentence of the document is quoted by a test, and every test quotes what the document says. */
public final class SentencesTest {
    private SentencesTest() {
    }

    public static void main(String[] args) {
        Promises p = Promises.quoted();
        RowsTest.all(p);
        TablesTest.all(p);
        BulbsTest.all(p);
        CertificatesTest.all(p);
        LabsTest.all(p);
        ToldTest.all(p);
        p.everySentenceIsQuoted();
        p.end();
    }
}
